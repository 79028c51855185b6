/-! building: what each call does to the reference's state -/
set_option maxHeartbeats 400000 in
theorem nIp {n : Nat} : nI (n + 1 - 1) = nI n := by rw [Nat.add_sub_cancel]
def PL9 (P st : Nat) (τ τ' : St) : Prop := FRm [924] [944] [] [915, 917, 923] τ τ' ∧ τ'.1 924 0 = P + 1 ∧ (∀ i, τ'.2.2.2 915 0 i = if 144 * P ≤ i ∧ i < 144 * P + 144 then nI st else τ.2.2.2 915 0 i) ∧ (∀ i, τ'.2.2.2 917 0 i = if 144 * P ≤ i ∧ i < 144 * P + 144 then (-1) else τ.2.2.2 917 0 i) ∧ τ'.2.2.2 923 0 = up1 (τ.2.2.2 923 0) P (-1)
def FT9 (F x y h v : Nat) (τ τ' : St) : Prop := FRm [] [944] [930, 931] [] τ τ' ∧ τ'.2.2.1 931 0 0 = F + 1 ∧ ∀ i, τ'.2.2.1 930 0 i = if i = 6 * F + 3 then v else if i = 6 * F + 2 then h else if i = 6 * F + 1 then y else if i = 6 * F then x else τ.2.2.1 930 0 i
def TL9 (T kd v : Nat) (τ τ' : St) : Prop := FRm [914] [944] [907] [906] τ τ' ∧ τ'.1 914 0 = T + 1 ∧ τ'.2.2.2 906 0 = up1 (τ.2.2.2 906 0) T (nI kd) ∧ τ'.2.2.1 907 0 = up1 (τ.2.2.1 907 0) T v
def LD9 (T : Nat) (τ τ' : St) : Prop := FRm [] [944] [] [911] τ τ' ∧ τ'.2.2.2 911 0 = up1 (τ.2.2.2 911 0) T (nI 1)
def DR9 (τ τ' : St) : Prop := FRm [932] [944] [] [] τ τ' ∧ τ'.1 932 0 = 1
def PR9 (n : Nat) (τ τ' : St) : Prop := FRm [904] [944] [] [] τ τ' ∧ τ'.1 904 0 = n + 1
section BQs
variable {D : va_G} {cI cZ cO : ClassId} {t0 mi : Nat} {l : Launch} {σ τ ρ : St}
set_option maxHeartbeats 400000 in
theorem Q_pallet (hl9 : l.stackTraces = false) (hR : Rl wr0 σ τ) {P st : Nat} (h9 : τ.1 924 0 = P) (hP : P < 6) (h1 : 1 ≤ st) (h2 : st ≤ 9) : ∃ σ' τ', (∀ (L : Lay) (ow : Nat → Prop), YI D cI cZ cO t0 mi l yX8_pallet cX8_pallet 2 (some FieldType.int) 10 300 8 800 [.ref (L 899 0), .int (nI st)] L σ ow 0 (nI P) σ') ∧ Rl wr0 σ' τ' ∧ PL9 P st τ τ' := by
  have g : (1 ≤ (nI st).toInt ∧ (nI st).toInt ≤ 9) ∧ (τ.1 924 0 < 6) ∧ True := ⟨⟨by rw [iz (by omega)]; omega, by rw [iz (by omega)]; omega⟩, by omega, trivial⟩
  have e : m_pallet (nI st) τ = (nI P, wN (wB (m_fil (nI st) P 144 (wI τ 944 0 (nI 0))) 923 0 P (-1)) 924 0 (P + 1)) := by
    unfold m_pallet
    rw [mg_0 g, if_pos g, h9, nIp]
  obtain ⟨r1, r2, r3⟩ := fil_r (v := nI st) (P := P) (σ := wI τ 944 0 (nI 0)) 144
  have r5 := fun i => fil_5 (v := nI st) (P := P) (σ := wI τ 944 0 (nI 0)) (i := i) 144
  have r7 := fun i => fil_7 (v := nI st) (P := P) (σ := wI τ 944 0 (nI 0)) (i := i) 144
  have ro := fun F q (a : F ≠ 915) (b : F ≠ 917) => fil_o (v := nI st) (P := P) (σ := wI τ 944 0 (nI 0)) (q := q) a b 144
  generalize m_fil (nI st) P 144 (wI τ 944 0 (nI 0)) = X at *
  obtain ⟨σ', h1', h2'⟩ := oq_pallet (D := D) (cI := cI) (cZ := cZ) (cO := cO) (t0 := t0) (mi := mi) hl9 hR (nI st) (by rw [e]; show X.2.1 944 0 = _; rw [r2]; exact t944 (τ := τ))
  rw [e] at h1' h2'
  have f1 : FRm [924] [944] [] [915, 917, 923] τ X := ⟨fun F _ => by rw [r1]; rfl, fun F z => by rw [r2]; exact if_neg (fun y => z (by rw [y]; decide)), fun F _ => by rw [r3]; rfl, fun F z => funext fun q => by rw [ro F q (fun y => z (by rw [y]; decide)) (fun y => z (by rw [y]; decide))]; rfl⟩
  refine ⟨σ', _, h1', h2', (f1.B (by decide)).N (by decide), wN_3, fun i => ?_, fun i => ?_, ?_⟩
  · show (wB X 923 0 P (-1)).2.2.2 915 0 i = _
    rw [wB_o (by decide), r5]
    rfl
  · show (wB X 923 0 P (-1)).2.2.2 917 0 i = _
    rw [wB_o (by decide), r7]
    rfl
  · show (wB X 923 0 P (-1)).2.2.2 923 0 = _
    rw [wB_3, ro 923 0 (by decide) (by decide)]
    rfl
set_option maxHeartbeats 400000 in
theorem Q_feature (hl9 : l.stackTraces = false) (hR : Rl wr0 σ τ) {F x y h v : Nat} (hd : τ.1 932 0 = 1) (hf : τ.2.2.1 931 0 0 = F) (hF : F < 6) (hx : x < 12) (hy : y < 12) (hh : h ≤ 9) (h1 : 1 ≤ v) (h2 : v ≤ 99) : ∃ σ' τ', (∀ (L : Lay) (ow : Nat → Prop), YI D cI cZ cO t0 mi l yX8_feature cX8_feature 8 (some FieldType.int) 7 142 3 18 [.ref (L 899 0), .int (nI 0), .int (nI x), .int (nI y), .int (nI h), .int (nI v)] L σ ow 0 (nI (F + 1)) σ') ∧ Rl wr0 σ' τ' ∧ FT9 F x y h v τ τ' := by
  have i0 : ix (nI 0) (τ.1 932 0) := by rw [hd]; exact ixz (by decide) (by decide)
  have a1 : ix (nI 0) (τ.1 932 0) ∧ (ix (nI x) 12 ∧ ix (nI y) 12) := ⟨i0, ixz hx (by decide), ixz hy (by decide)⟩
  have z0 : tn (nI 0) = 0 := tz (by decide)
  have g : (ix (nI 0) (τ.1 932 0) ∧ (ix (nI x) 12 ∧ ix (nI y) 12)) ∧ ((0 ≤ (nI h).toInt ∧ (nI h).toInt ≤ 9) ∧ (1 ≤ (nI v).toInt ∧ (nI v).toInt ≤ 99)) ∧ ((ix (nI 0) (τ.1 932 0) ∧ (ix (nI x) 12 ∧ ix (nI y) 12)) ∧ τ.2.2.1 931 0 (tn (nI 0)) < 6) := ⟨a1, ⟨⟨by rw [iz (by omega)]; omega, by rw [iz (by omega)]; omega⟩, ⟨by rw [iz (by omega)]; omega, by rw [iz (by omega)]; omega⟩⟩, a1, by rw [z0, hf]; exact hF⟩
  have e : m_feature (nI 0) (nI x) (nI y) (nI h) (nI v) τ = (nI (F + 1), wA (wA (wA (wA (wA (wI τ 944 0 (nI 0)) 930 0 (6 * (6 * 0 + F)) x) 930 0 (6 * (6 * 0 + F) + 1) y) 930 0 (6 * (6 * 0 + F) + 2) h) 930 0 (6 * (6 * 0 + F) + 3) v) 931 0 0 (F + 1)) := by
    unfold m_feature
    rw [mg_0 g, if_pos g, z0, hf, tz (by omega : x < 1000), tz (by omega : y < 1000), tz (by omega : h < 1000), tz (by omega : v < 1000)]
  obtain ⟨σ', h1', h2'⟩ := oq_feature (D := D) (cI := cI) (cZ := cZ) (cO := cO) (t0 := t0) (mi := mi) hl9 hR (nI 0) (nI x) (nI y) (nI h) (nI v) (by rw [e]; exact t944 (τ := τ))
  rw [e] at h1' h2'
  refine ⟨σ', _, h1', h2', (((((fr944.A (by decide)).A (by decide)).A (by decide)).A (by decide)).A (by decide)), ?_, fun i => ?_⟩
  · rw [wA_3, up1_s]
  · rw [wA_o (by decide), wA_3, wA_3, wA_3, wA_3, up1_app, up1_app, up1_app, up1_app]
    rw [show 6 * (6 * 0 + F) = 6 * F by omega]
    rfl
set_option maxHeartbeats 400000 in
theorem Q_tool (hl9 : l.stackTraces = false) (hR : Rl wr0 σ τ) {T kd v : Nat} (ht : τ.1 914 0 = T) (hT : T < 16) (hk : kd < 4) (h1 : 1 ≤ v) (h2 : v ≤ 500) : ∃ σ' τ', (∀ (L : Lay) (ow : Nat → Prop), YI D cI cZ cO t0 mi l yX8_tool cX8_tool 3 (some FieldType.int) 10 300 4 200 [.ref (L 899 0), .int (nI kd), .int (nI v)] L σ ow 0 (nI T) σ') ∧ Rl wr0 σ' τ' ∧ TL9 T kd v τ τ' := by
  have g : (ix (nI kd) 4 ∧ (1 ≤ (nI v).toInt ∧ (nI v).toInt ≤ 500)) ∧ (τ.1 914 0 < 16) ∧ True := ⟨⟨ixz hk (by decide), ⟨by rw [iz (by omega)]; omega, by rw [iz (by omega)]; omega⟩⟩, by omega, trivial⟩
  have e : m_tool (nI kd) (nI v) τ = (nI T, wN (wA (wB (wI τ 944 0 (nI 0)) 906 0 T (nI kd)) 907 0 T v) 914 0 (T + 1)) := by
    unfold m_tool
    rw [mg_0 g, if_pos g, ht, nIp, tz (by omega : v < 1000)]
  obtain ⟨σ', h1', h2'⟩ := oq_tool (D := D) (cI := cI) (cZ := cZ) (cO := cO) (t0 := t0) (mi := mi) hl9 hR (nI kd) (nI v) (by rw [e]; exact t944 (τ := τ))
  rw [e] at h1' h2'
  refine ⟨σ', _, h1', h2', (((fr944.B (by decide)).A (by decide)).N (by decide)), wN_3, ?_, ?_⟩
  · show (wB (wI τ 944 0 (nI 0)) 906 0 T (nI kd)).2.2.2 906 0 = _
    rw [wB_3]
    rfl
  · show (wA (wB (wI τ 944 0 (nI 0)) 906 0 T (nI kd)) 907 0 T v).2.2.1 907 0 = _
    rw [wA_3]
    rfl
set_option maxHeartbeats 400000 in
theorem cntZ_a (f : Nat → Int32) : ∀ n, (∀ k, k < n → ¬ f k = 0) → cntZ f n = n
  | 0, _ => rfl
  | n + 1, h => by
    unfold cntZ
    rw [cntZ_a f n (fun k hk => h k (by omega)), if_neg (h n (by omega))]
set_option maxHeartbeats 400000 in
theorem Q_loadB (hl9 : l.stackTraces = false) (hR : Rl wr0 σ τ) {T : Nat} (ht : τ.1 914 0 = T + 1) (hT : T < 4) (h1 : ∀ k, k < T → τ.2.2.2 911 0 k = nI 1) : ∃ σ' τ', (∀ (L : Lay) (ow : Nat → Prop), YI D cI cZ cO t0 mi l yX8_load cX8_load 4 (some FieldType.int) 7 143 2 12 [.ref (L 899 0), .int (nI T), .int (nI 1)] L σ ow 0 (nI (T + 1)) σ') ∧ Rl wr0 σ' τ' ∧ LD9 T τ τ' := by
  have h4 : cntZ (τ.2.2.2 911 0) (τ.1 914 0) < 6 := Nat.lt_of_le_of_lt (cntZ_le _ _) (by rw [ht]; omega)
  have g : ix (nI T) (τ.1 914 0) ∧ (ix (nI T) (τ.1 914 0) ∧ (¬ ¬ nI 1 = 0 ∨ ¬ τ.2.2.2 911 0 (tn (nI T)) = 0 ∨ cntZ (τ.2.2.2 911 0) (τ.1 914 0) < 6)) ∧ True := ⟨by rw [ht]; exact ixz (by omega) (by omega), ⟨by rw [ht]; exact ixz (by omega) (by omega), Or.inr (Or.inr h4)⟩, trivial⟩
  have ec : cntZ (up1 (τ.2.2.2 911 0) T (nI 1)) (T + 1) = T + 1 := cntZ_a _ _ (fun k hk => by
    rw [up1_app]
    by_cases z : k = T
    · rw [if_pos z]; decide
    · rw [if_neg z, h1 k (by omega)]; decide)
  have e : (m_load (nI T) (¬ nI 1 = 0) τ) = (nI (T + 1), wB (wI τ 944 0 (nI 0)) 911 0 T (nI 1)) := by
    unfold m_load
    rw [mg_0 g, if_pos g, tz (by omega : T < 1000), b2i_v (v := nI 1) (Or.inr rfl), ht, wB_3]
    rw [show (wI τ 944 0 (nI 0)).2.2.2 911 0 = τ.2.2.2 911 0 from rfl, ec]
  obtain ⟨σ', h1', h2'⟩ := oq_load (D := D) (cI := cI) (cZ := cZ) (cO := cO) (t0 := t0) (mi := mi) hl9 hR (nI T) (nI 1) (Or.inr rfl) (by rw [e]; exact t944 (τ := τ))
  rw [e] at h1' h2'
  exact ⟨σ', _, h1', h2', fr944.B (by decide), by rw [wB_3]; rfl⟩
set_option maxHeartbeats 400000 in
theorem Q_drawing (hl9 : l.stackTraces = false) (hR : Rl wr0 σ τ) (hd : τ.1 932 0 = 0) : ∃ σ' τ', (∀ (L : Lay) (ow : Nat → Prop), YI D cI cZ cO t0 mi l yX8_drawing cX8_drawing 1 (some FieldType.int) 10 300 8 200 [.ref (L 899 0)] L σ ow 0 (nI 0) σ') ∧ Rl wr0 σ' τ' ∧ DR9 τ τ' := by
  have g : (τ.1 932 0 < 4) ∧ True ∧ True := ⟨by omega, trivial, trivial⟩
  have e : m_drawing τ = (nI 0, wN (wI τ 944 0 (nI 0)) 932 0 (0 + 1)) := by
    unfold m_drawing
    rw [mg_0 g, if_pos g, hd, nIp]
  obtain ⟨σ', h1', h2'⟩ := oq_drawing (D := D) (cI := cI) (cZ := cZ) (cO := cO) (t0 := t0) (mi := mi) hl9 hR (by rw [e]; exact t944 (τ := τ))
  rw [e] at h1' h2'
  exact ⟨σ', _, h1', h2', fr944.N (by decide), wN_3⟩
set_option maxHeartbeats 400000 in
theorem Q_program (hl9 : l.stackTraces = false) (hR : Rl wr0 σ τ) {n : Nat} (hn : τ.1 904 0 = n) (h6 : n < 6) : ∃ σ' τ', (∀ (L : Lay) (ow : Nat → Prop), YI D cI cZ cO t0 mi l yX8_program cX8_program 1 (some FieldType.int) 10 300 4 200 [.ref (L 899 0)] L σ ow 0 (nI n) σ') ∧ Rl wr0 σ' τ' ∧ PR9 n τ τ' := by
  have g : (τ.1 904 0 < 6) ∧ True ∧ True := ⟨by omega, trivial, trivial⟩
  have e : m_program τ = (nI n, wN (wI τ 944 0 (nI 0)) 904 0 (n + 1)) := by
    unfold m_program
    rw [mg_0 g, if_pos g, hn, nIp]
  obtain ⟨σ', h1', h2'⟩ := oq_program (D := D) (cI := cI) (cZ := cZ) (cO := cO) (t0 := t0) (mi := mi) hl9 hR (by rw [e]; exact t944 (τ := τ))
  rw [e] at h1' h2'
  exact ⟨σ', _, h1', h2', fr944.N (by decide), wN_3⟩
end BQs
/-! .. and what of the law's rows and of the reference holds on the way -/
def BZ (τ : St) : Prop := (∀ F, F ∉ [932, 924, 914, 904] → ∀ k, τ.1 F k = 0) ∧ (∀ F, F ∉ [931, 930, 907, 903] → ∀ i, τ.2.2.1 F 0 i = 0) ∧ ∀ F, F ∉ [915, 917, 923, 906, 911, 902] → ∀ i, τ.2.2.2 F 0 i = 0
set_option maxHeartbeats 400000 in
theorem BZ.fr {lN lI lA lB : List Nat} {τ τ' : St} (h : BZ τ) (f : FRm lN lI lA lB τ τ') (h1 : ∀ F ∈ lN, F ∈ [932, 924, 914, 904] := by decide) (h2 : ∀ F ∈ lA, F ∈ [931, 930, 907, 903] := by decide) (h3 : ∀ F ∈ lB, F ∈ [915, 917, 923, 906, 911, 902] := by decide) : BZ τ' := ⟨fun F z k => by rw [f.1 F (fun y => z (h1 F y))]; exact h.1 F z k, fun F z i => by rw [f.2.2.1 F (fun y => z (h2 F y))]; exact h.2.1 F z i, fun F z i => by rw [f.2.2.2 F (fun y => z (h3 F y))]; exact h.2.2 F z i⟩
def BG (ρ τ : St) : Prop := τ.1 904 0 = 0 ∧ (∀ k, τ.2.2.1 903 0 k = 0) ∧ ∀ i, ρ.2.2.2 901 0 i = 0
def BP (P : Nat) (ρ τ : St) : Prop := τ.1 924 0 = P ∧ (∀ p, p < 2 → ∀ i, ρ.2.2.1 900 p i ≤ 9) ∧ (∀ p, p < P → ∀ c, c < 48 → nI (ρ.2.2.1 900 p c) = τ.2.2.2 915 0 (144 * p + c) ∧ τ.2.2.2 917 0 (144 * p + c) = (-1)) ∧ (∀ p, p < 2 → ρ.2.2.2 905 0 (4 * p + 3) = τ.2.2.2 923 0 p) ∧ ∀ i, i ≠ 3 → i ≠ 7 → ρ.2.2.2 905 0 i = 0
def BF (F : Nat) (ρ τ : St) : Prop := τ.1 932 0 = 1 ∧ τ.2.2.1 931 0 0 = F ∧ (∀ k, k < F → (∀ j, j < 4 → ρ.2.2.2 903 0 (16 + 6 * k + j) = nI (τ.2.2.1 930 0 (6 * k + j))) ∧ τ.2.2.1 930 0 (6 * k) < 12 ∧ τ.2.2.1 930 0 (6 * k + 1) < 4 ∧ τ.2.2.1 930 0 (6 * k + 2) ≤ 9 ∧ τ.2.2.1 930 0 (6 * k + 3) ≤ 99) ∧ (∀ i, 4 ≤ i % 6 → τ.2.2.1 930 0 i = 0) ∧ ∀ i, ¬ (16 ≤ i ∧ i < 28 ∧ i % 6 ≠ 2 ∧ i % 6 ≠ 3) → ρ.2.2.2 903 0 i = 0
def BTo (T : Nat) (ρ τ : St) : Prop := τ.1 914 0 = T ∧ (∀ k, k < T → ρ.2.2.2 902 0 (9 * k) = τ.2.2.2 906 0 k ∧ ρ.2.2.2 902 0 (9 * k + 1) = nI (τ.2.2.1 907 0 k) ∧ ρ.2.2.2 902 0 (9 * k + 4) = τ.2.2.2 911 0 k ∧ τ.2.2.2 911 0 k = nI 1 ∧ τ.2.2.1 907 0 k ≤ 500) ∧ ∀ i, i % 9 ≠ 0 → i % 9 ≠ 1 → i % 9 ≠ 4 → ρ.2.2.2 902 0 i = 0
def BJ (P T : Nat) (ρ τ : St) : Prop := JN ρ ∧ BZ τ ∧ BG ρ τ ∧ BP P ρ τ ∧ BF P ρ τ ∧ BTo T ρ τ
set_option maxHeartbeats 400000 in
theorem cntC_0 (f : Nat → Nat) (h : ∀ i, f i ≤ 9) : ∀ n, cntC f n = 0
  | 0 => rfl
  | n + 1 => by rw [← cntC_s f n, cntC_0 f h n, if_pos (by have := h n; omega)]
set_option maxHeartbeats 400000 in
theorem BJ.jx {ρ τ : St} (h : BJ 2 4 ρ τ) : JX 0 0 ρ τ := by
  obtain ⟨hN, hZ, hG, hP, hF, hT⟩ := h
  have gs0 : ∀ p, gs ρ p = 0 := fun p => by unfold gs; rw [hG.2.2]; rfl
  have n908 : ∀ i, τ.2.2.1 908 0 i = 0 := hZ.2.1 908 (by decide)
  refine ⟨hN, ⟨fun p _ => ⟨by rw [gs0, hG.2.1], fun j hj => by rw [gs0] at hj; omega⟩, hG.1, fun p _ => by rw [gs0]; omega⟩, ⟨hP.1, fun p hp => ⟨fun i => Nat.lt_of_le_of_lt (hP.2.1 p hp i) (by decide), fun c hc => ?_⟩⟩, ⟨⟨hT.1, fun k hk => ?_⟩, fun k hk => ?_⟩, ?_, ?_, ?_, ?_, ?_, fun p hp => ?_⟩
  · have a := hP.2.2.1 p hp c hc
    have b := hP.2.1 p hp c
    generalize ρ.2.2.1 900 p c = C at *
    have z1 : C / 16 % 64 = 0 := by omega
    refine ⟨⟨by omega, by rw [z1, a.2]; rfl, fun z => absurd z1 z⟩, ?_, ?_⟩
    · rw [show C % 16 = C by omega]; exact a.1
    · rw [show C / 17592186044416 % 16 = 0 by omega, hZ.2.2 916 (by decide)]; rfl
  · obtain ⟨a1, a2, a3, a4, a5⟩ := hT.2.1 k hk
    exact ⟨a1, a2, by rw [hT.2.2 _ (by omega) (by omega) (by omega), n908]; rfl, a3, Or.inr a4, a5, by rw [n908]; omega⟩
  · refine ⟨by rw [hT.2.2 _ (by omega) (by omega) (by omega), hZ.2.2 910 (by decide)], by rw [hT.2.2 _ (by omega) (by omega) (by omega)]; decide, fun j hj => by rw [hT.2.2 _ (by omega) (by omega) (by omega), hZ.2.2 912 (by decide)], by rw [hT.2.2 _ (by omega) (by omega) (by omega), hZ.2.1 913 (by decide)]; rfl⟩
  · refine ⟨by rw [hF.2.2.2.2 0 (by omega), hZ.1 900 (by decide)]; rfl, ⟨by rw [hF.2.2.2.2 1 (by omega), hZ.1 901 (by decide)]; rfl, by rw [hZ.1 901 (by decide)]; omega⟩, fun x hx => ⟨by rw [hF.2.2.2.2 _ (by omega), hZ.2.2 905 (by decide)], by rw [hF.2.2.2.2 _ (by omega)]; decide⟩, by rw [hZ.1 900 (by decide)]; exact Nat.zero_le _⟩
  · refine ⟨by rw [hP.2.2.2.2 10 (by decide) (by decide), hZ.1 926 (by decide)]; rfl, by rw [hZ.1 926 (by decide)]; omega, fun i hi => by rw [hZ.1 926 (by decide)] at hi; omega, fun y => by rw [hZ.1 926 (by decide)] at y; omega, fun p hp => ⟨by rw [hP.2.2.2.2 _ (by omega) (by omega), hZ.2.2 920 (by decide)], by rw [hP.2.2.2.2 _ (by omega) (by omega), hZ.2.1 921 (by decide)]; rfl, by rw [hP.2.2.2.2 _ (by omega) (by omega), hZ.2.1 922 (by decide)]; rfl, hP.2.2.2.1 p hp, by rw [hZ.2.1 921 (by decide)]; omega, by rw [hZ.2.1 922 (by decide)]; omega⟩⟩
  · exact ⟨Or.inl (hZ.2.2 928 (by decide) 2), by rw [hF.2.2.2.2 2 (by omega), if_pos (hZ.2.2 928 (by decide) 2)], by rw [hF.2.2.2.2 3 (by omega), hZ.2.2 929 (by decide)], by rw [hZ.2.2 929 (by decide)]; decide⟩
  · refine ⟨hF.1, hF.2.1, fun k hk => ?_⟩
    obtain ⟨b1, b2, b3, b4, b5⟩ := hF.2.2.1 k hk
    refine ⟨fun j hj => ?_, b2, b3, b4, b5, by rw [hF.2.2.2.1 _ (by omega)]; omega, by rw [hF.2.2.2.1 _ (by omega)]; omega⟩
    by_cases z : j < 4
    · exact b1 j z
    · rw [hF.2.2.2.2 _ (by omega), hF.2.2.2.1 _ (by omega)]; rfl
  · exact ⟨by rw [hF.2.2.2.2 28 (by omega), hZ.1 934 (by decide)]; rfl, by rw [hZ.1 934 (by decide)]; omega, fun y => by rw [hZ.1 934 (by decide)] at y; omega⟩
  · exact ⟨by rw [cntC_0 _ (hP.2.1 p hp), hZ.2.1 919 (by decide)], Or.inl (hZ.2.2 920 (by decide) p)⟩
set_option maxHeartbeats 400000 in
/-- one pallet and one feature more -/
theorem BJ.pal {k st x y h v : Nat} {ρ ρ' τ τ1 τ2 : St} (hB : BJ k 0 ρ τ) (hk : k < 2) (h1 : PL9 k st τ τ1) (h2 : FT9 k x y h v τ1 τ2) (hst : st ≤ 9) (hx : x < 12) (hy : y < 4) (hh : h ≤ 9) (hv : v ≤ 99)
    (a9 : ∀ p, p < 2 → ∀ i, ρ'.2.2.1 900 p i ≤ 9) (ak : ∀ c, c < 48 → ρ'.2.2.1 900 k c = st) (ao : ∀ p, p < k → ∀ c, ρ'.2.2.1 900 p c = ρ.2.2.1 900 p c) (aN : JN ρ') (a1 : ρ'.2.2.2 901 0 = ρ.2.2.2 901 0) (a2 : ρ'.2.2.2 902 0 = ρ.2.2.2 902 0) (a5 : ρ'.2.2.2 905 0 = up1 (ρ.2.2.2 905 0) (4 * k + 3) (-1))
    (a3 : ∀ i, ρ'.2.2.2 903 0 i = if i = 16 + 6 * k + 3 then nI v else if i = 16 + 6 * k + 2 then nI h else if i = 16 + 6 * k + 1 then nI y else if i = 16 + 6 * k then nI x else ρ.2.2.2 903 0 i) : BJ (k + 1) 0 ρ' τ2 := by
  obtain ⟨hN, hZ, hG, hP, hF, hT⟩ := hB
  obtain ⟨f1, p1, p2, p3, p4⟩ := h1
  obtain ⟨f2, q1, q2⟩ := h2
  have hZ2 := (hZ.fr f1).fr f2
  have e923 : τ2.2.2.2 923 0 = up1 (τ.2.2.2 923 0) k (-1) := by rw [f2.2.2.2 923 (by decide)]; exact p4
  have e930 : ∀ i, τ2.2.2.1 930 0 i = if i = 6 * k + 3 then v else if i = 6 * k + 2 then h else if i = 6 * k + 1 then y else if i = 6 * k then x else τ.2.2.1 930 0 i := fun i => by rw [q2, f1.2.2.1 930 (by decide)]
  refine ⟨aN, hZ2, ⟨by rw [f2.1 904 (by decide), f1.1 904 (by decide)]; exact hG.1, fun j => by rw [f2.2.2.1 903 (by decide), f1.2.2.1 903 (by decide)]; exact hG.2.1 j, fun i => by rw [a1]; exact hG.2.2 i⟩, ⟨by rw [f2.1 924 (by decide)]; exact p1, a9, fun p hp c hc => ?_, fun p hp => ?_, fun i i3 i7 => ?_⟩, ⟨by rw [f2.1 932 (by decide), f1.1 932 (by decide)]; exact hF.1, q1, fun j hj => ?_, fun i hi => ?_, fun i hi => ?_⟩, ⟨by rw [f2.1 914 (by decide), f1.1 914 (by decide)]; exact hT.1, fun j hj => absurd hj (Nat.not_lt_zero _), fun i i0 i1 i4 => by rw [a2]; exact hT.2.2 i i0 i1 i4⟩⟩
  · rw [f2.2.2.2 915 (by decide), f2.2.2.2 917 (by decide), p2, p3]
    by_cases z : p = k
    · subst z
      rw [if_pos (by omega), if_pos (by omega), ak c hc]
      exact ⟨rfl, rfl⟩
    · rw [if_neg (by omega), if_neg (by omega), ao p (by omega)]
      exact hP.2.2.1 p (by omega) c hc
  · rw [a5, e923, up1_app, up1_app]
    by_cases z : p = k
    · rw [if_pos (by omega), if_pos z]
    · rw [if_neg (by omega), if_neg z]
      exact hP.2.2.2.1 p hp
  · rw [a5, up1_app, if_neg (by omega)]
    exact hP.2.2.2.2 i i3 i7
  · by_cases z : j = k
    · subst z
      refine ⟨fun i hi => ?_, ?_, ?_, ?_, ?_⟩
      · rw [a3, e930]
        rcases (by omega : i = 0 ∨ i = 1 ∨ i = 2 ∨ i = 3) with rfl | rfl | rfl | rfl
        · rw [if_neg (by omega), if_neg (by omega), if_neg (by omega), if_pos (by omega), if_neg (by omega), if_neg (by omega), if_neg (by omega), if_pos (by omega)]
        · rw [if_neg (by omega), if_neg (by omega), if_pos (by omega), if_neg (by omega), if_neg (by omega), if_pos (by omega)]
        · rw [if_neg (by omega), if_pos (by omega), if_neg (by omega), if_pos (by omega)]
        · rw [if_pos (by omega), if_pos (by omega)]
      · rw [e930, if_neg (by omega), if_neg (by omega), if_neg (by omega), if_pos rfl]; exact hx
      · rw [e930, if_neg (by omega), if_neg (by omega), if_pos rfl]; exact hy
      · rw [e930, if_neg (by omega), if_pos rfl]; exact hh
      · rw [e930, if_pos rfl]; exact hv
    · obtain ⟨b1, b2, b3, b4, b5⟩ := hF.2.2.1 j (by omega)
      refine ⟨fun i hi => ?_, ?_, ?_, ?_, ?_⟩
      · rw [a3, e930, if_neg (by omega), if_neg (by omega), if_neg (by omega), if_neg (by omega), if_neg (by omega), if_neg (by omega), if_neg (by omega), if_neg (by omega)]
        exact b1 i hi
      · rw [e930, if_neg (by omega), if_neg (by omega), if_neg (by omega), if_neg (by omega)]; exact b2
      · rw [e930, if_neg (by omega), if_neg (by omega), if_neg (by omega), if_neg (by omega)]; exact b3
      · rw [e930, if_neg (by omega), if_neg (by omega), if_neg (by omega), if_neg (by omega)]; exact b4
      · rw [e930, if_neg (by omega), if_neg (by omega), if_neg (by omega), if_neg (by omega)]; exact b5
  · rw [e930, if_neg (by omega), if_neg (by omega), if_neg (by omega), if_neg (by omega)]
    exact hF.2.2.2.1 i hi
  · rw [a3, if_neg (by omega), if_neg (by omega), if_neg (by omega), if_neg (by omega)]
    exact hF.2.2.2.2 i hi
set_option maxHeartbeats 400000 in
/-- one tool more -/
theorem BJ.tool {T kd v : Nat} {ρ ρ' τ τ1 τ2 : St} (hB : BJ 2 T ρ τ) (h1 : TL9 T kd v τ τ1) (h2 : LD9 T τ1 τ2) (hv : v ≤ 500) (aA : ρ'.2.2.1 = ρ.2.2.1) (aB : ∀ F, F ≠ 902 → ρ'.2.2.2 F = ρ.2.2.2 F) (a2 : ∀ i, ρ'.2.2.2 902 0 i = if i = 9 * T + 4 then nI 1 else if i = 9 * T + 1 then nI v else if i = 9 * T then nI kd else ρ.2.2.2 902 0 i) : BJ 2 (T + 1) ρ' τ2 := by
  obtain ⟨hN, hZ, hG, hP, hF, hT⟩ := hB
  obtain ⟨f1, p1, p2, p3⟩ := h1
  obtain ⟨f2, q1⟩ := h2
  have e6 : τ2.2.2.2 906 0 = up1 (τ.2.2.2 906 0) T (nI kd) := by rw [f2.2.2.2 906 (by decide)]; exact p2
  have e7 : τ2.2.2.1 907 0 = up1 (τ.2.2.1 907 0) T v := by rw [f2.2.2.1 907 (by decide)]; exact p3
  have e11 : τ2.2.2.2 911 0 = up1 (τ.2.2.2 911 0) T (nI 1) := by rw [q1, f1.2.2.2 911 (by decide)]
  refine ⟨by unfold JN; rw [aA]; exact hN, (hZ.fr f1).fr f2, ⟨by rw [f2.1 904 (by decide), f1.1 904 (by decide)]; exact hG.1, fun j => by rw [f2.2.2.1 903 (by decide), f1.2.2.1 903 (by decide)]; exact hG.2.1 j, fun i => by rw [aB 901 (by decide)]; exact hG.2.2 i⟩, ?_, ?_, ⟨by rw [f2.1 914 (by decide)]; exact p1, fun k hk => ?_, fun i i0 i1 i4 => by rw [a2, if_neg (by omega), if_neg (by omega), if_neg (by omega)]; exact hT.2.2 i i0 i1 i4⟩⟩
  · unfold BP
    rw [aA, aB 905 (by decide), f2.1 924 (by decide), f1.1 924 (by decide), f2.2.2.2 915 (by decide), f1.2.2.2 915 (by decide), f2.2.2.2 917 (by decide), f1.2.2.2 917 (by decide), f2.2.2.2 923 (by decide), f1.2.2.2 923 (by decide)]
    exact hP
  · unfold BF
    rw [aB 903 (by decide), f2.1 932 (by decide), f1.1 932 (by decide), f2.2.2.1 931 (by decide), f1.2.2.1 931 (by decide), f2.2.2.1 930 (by decide), f1.2.2.1 930 (by decide)]
    exact hF
  · rw [a2, a2, a2, e6, e7, e11, up1_app, up1_app, up1_app]
    by_cases z : k = T
    · subst z
      rw [if_neg (by omega), if_neg (by omega), if_pos rfl, if_pos rfl, if_neg (by omega), if_pos rfl, if_pos rfl, if_pos rfl, if_pos rfl]
      exact ⟨rfl, rfl, rfl, rfl, hv⟩
    · rw [if_neg (by omega), if_neg (by omega), if_neg (by omega), if_neg z, if_neg (by omega), if_neg (by omega), if_neg (by omega), if_neg z, if_neg (by omega), if_neg (by omega), if_neg (by omega), if_neg z]
      exact hT.2.1 k (by omega)
set_option maxHeartbeats 400000 in
/-- one program more -/
theorem JX.prog {n : Nat} {ρ τ τ' : St} (h : JX 0 n ρ τ) (f : PR9 n τ τ') : JX 0 (n + 1) ρ τ' := by
  obtain ⟨hN, ⟨hG9, h904, h12⟩, hA, hT, hM, hQ, hG, hF, hW, hC⟩ := h
  obtain ⟨f1, e⟩ := f
  exact ⟨hN, ⟨hG9.eq rfl (f1.2.2.1 903 (by decide)) (f1.2.2.2 902 (by decide)), e, h12⟩, hA.fr f1 (fun _ _ => rfl), hT.fr f1 rfl, hM.fr f1 (fun _ _ _ _ => rfl), hQ.fr f1 rfl, hG.fr f1 ⟨rfl, rfl⟩, hF.fr f1 (fun _ _ _ => rfl), hW.fr f1 (fun _ _ _ => rfl), hC.fr f1 (fun _ _ => rfl)⟩
set_option maxHeartbeats 400000 in
/-- nothing is made yet -/
theorem BJ_0 {ρ τ : St} (hN : JN ρ) (f : DR9 σz τ) (h1 : ∀ p, ρ.2.2.1 900 p = fun _ => 0) (h2 : ∀ F, ρ.2.2.2 F 0 = fun _ => 0) : BJ 0 0 ρ τ := by
  obtain ⟨f, e⟩ := f
  have z : BZ σz := ⟨fun _ _ _ => rfl, fun _ _ _ => rfl, fun _ _ _ => rfl⟩
  refine ⟨hN, z.fr f, ⟨by rw [f.1 904 (by decide)]; rfl, fun k => by rw [f.2.2.1 903 (by decide)]; rfl, fun i => by rw [h2]⟩, ⟨by rw [f.1 924 (by decide)]; rfl, fun p _ i => by rw [h1]; exact Nat.zero_le _, fun p hp => absurd hp (Nat.not_lt_zero _), fun p _ => by rw [h2, f.2.2.2 923 (by decide)]; rfl, fun i _ _ => by rw [h2]⟩, ⟨e, by rw [f.2.2.1 931 (by decide)]; rfl, fun k hk => absurd hk (Nat.not_lt_zero _), fun i _ => by rw [f.2.2.1 930 (by decide)]; rfl, fun i _ => by rw [h2]⟩, ⟨by rw [f.1 914 (by decide)]; rfl, fun k hk => absurd hk (Nat.not_lt_zero _), fun i _ _ _ => by rw [h2]⟩⟩
