/-! judging, the whole of it -/
set_option maxHeartbeats 800000 in
theorem js_933 (P M k : Nat) (T : St) (i : Nat) : (m_jst P 0 2 M k T).2.2.2 933 0 i = if i = 18 * M + 11 + k then mB k T else if i = 18 * M + 5 + k then mA P k T else T.2.2.2 933 0 i := by
  rw [jst_m]
  split
  · exact (mS_r P M k T).1 i
  · rw [(tells_r _ _ _).2.2.2.2.2 933 (by decide)]
    exact (mS_r P M k T).1 i
/-- what measuring leaves of the law's rows -/
def LF9 (X X' : St) : Prop := X'.2.2.1 = X.2.2.1 ∧ (∀ F, F ≠ 902 → F ≠ 903 → X'.2.2.2 F = X.2.2.2 F) ∧ ∀ i, i < 16 ∨ (28 ≤ i ∧ i < 33) → X'.2.2.2 903 0 i = X.2.2.2 903 0 i
set_option maxHeartbeats 800000 in
theorem js_LF (p k : Nat) (hk : k < 2) (X : St) : LF9 X (h_js p k X) := by
  obtain ⟨s1, s2, s3⟩ := jS_r p k X
  have a : LF9 X (jS p k X) := ⟨s3, fun F _ z => s2 F z, fun i hi => by rw [s1, if_neg (by omega), if_neg (by omega), if_neg (by omega)]⟩
  unfold h_js
  split
  · exact a
  · obtain ⟨u1, u2, u3⟩ := jU_r (jC p k X / 16 % 64 - 1) (jA p k X) (jS p k X)
    exact ⟨u3.trans a.1, fun F z y => (u2 F z).trans (a.2.1 F z y), fun i hi => by rw [u2 903 (by decide)]; exact a.2.2 i hi⟩
set_option maxHeartbeats 800000 in
theorem vdl_c {f g : Nat → Int32} : ∀ n, (∀ j, j < n → f j = g j) → vdl f n = vdl g n
  | 0, _ => rfl
  | n + 1, h => by
    unfold vdl
    rw [vdl_c n (fun j hj => h j (by omega)), h n (by omega)]
set_option maxHeartbeats 800000 in
theorem jv_vdl {f : Nat → Int32} {k : Nat} {v o : Int32} (hv : v = vdl f k) (ho : f k = o) : h_jv v o = vdl f (k + 1) := by
  unfold h_jv vdl
  rw [← hv, ho]
  by_cases c : v < o
  · rw [if_pos c, if_neg (fun z => absurd c (Int32.not_lt.mpr z))]
  · rw [if_neg c, if_pos (Int32.not_lt.mp c)]
set_option maxHeartbeats 800000 in
theorem jl_s {P D G M k : Nat} {τ : St} : m_jl P D G M (k + 1) τ = m_jst P D G M k (m_jl P D G M k τ) := rfl
set_option maxHeartbeats 800000 in
theorem hjl_s {p k : Nat} {ρ : St} : h_jl p (k + 1) ρ = (h_jv (h_jl p k ρ).1 (jO (jA p k (h_jl p k ρ).2) (jB k (h_jl p k ρ).2) ((h_jl p k ρ).2.2.2.2 903 0 3)), h_js p k (h_jl p k ρ).2) := rfl
/-- all that holds after k features -/
def JZ (K M k : Nat) (v d : Int32) (X0 T0 X T : St) : Prop := JL K M k X T ∧ v = vdl (vdf M T) k ∧ T.2.2.2 933 0 (18 * M + 4) = d ∧ X.2.2.2 903 0 3 = d ∧ LF9 X0 X ∧ FRm [] [] [930, 913] [933, 912] T0 T ∧ ∀ i, i < 18 * M + 5 ∨ 18 * M + 7 ≤ i ∧ i < 18 * M + 11 ∨ 18 * M + 13 ≤ i → T.2.2.2 933 0 i = T0.2.2.2 933 0 i
set_option maxHeartbeats 800000 in
theorem jl_sim {K M P : Nat} {d : Int32} {X0 T0 : St} (h : JZ K M 0 (nI 0) d X0 T0 X0 T0) (hd : ix d 31) (hP : P < 2) (hK : K ≤ 900000) : ∀ k, k ≤ 2 → JZ K M k (h_jl P k X0).1 d X0 T0 (h_jl P k X0).2 (m_jl P 0 2 M k T0)
  | 0, _ => h
  | k + 1, hk => by
    have ih := jl_sim h hd hP hK k (by omega)
    rw [hjl_s, jl_s]
    generalize h_jl P k X0 = Q at ih ⊢
    generalize m_jl P 0 2 M k T0 = T at ih ⊢
    obtain ⟨i1, i2, i3, i4, i5, i6, i7⟩ := ih
    obtain ⟨e1, e2, e3, ⟨b0, b1, b2⟩, e5, e6, e7, e8⟩ := jm_eq i1 (by omega) hP hK
    have s := js_sim i1 (by omega) hP hK
    have lf := js_LF P k (by omega) Q.2
    have e93 := js_933 P M k T
    have fj := jst_fr P 0 2 M k T
    refine ⟨s.1, ?_, ?_, ?_, ?_, i6.tr fj, fun i hi => ?_⟩
    · refine jv_vdl ?_ ?_
      · rw [i2]
        refine vdl_c k (fun j hj => ?_)
        unfold vdf
        rw [e93, e93, e93, if_neg (by omega), if_neg (by omega), if_neg (by omega), if_neg (by omega), if_neg (by omega), if_neg (by omega)]
      · unfold vdf
        rw [e93 (18 * M + 5 + k), e93 (18 * M + 11 + k), e93 (18 * M + 4), if_neg (by omega), if_pos rfl, if_pos rfl, if_neg (by omega), if_neg (by omega), i3, i4, e1, e2, b2]
        exact vd_jO e5 b1 hd
    · rw [e93, if_neg (by omega), if_neg (by omega)]; exact i3
    · rw [lf.2.2 3 (Or.inl (by decide))]; exact i4
    · exact ⟨lf.1.trans i5.1, fun F z y => (lf.2.1 F z y).trans (i5.2.1 F z y), fun i hi => (lf.2.2 i hi).trans (i5.2.2 i hi)⟩
    · rw [e93, if_neg (by omega), if_neg (by omega)]; exact i7 i hi
/-- the paper's first entries, in short -/
def m_j0 (p9 : Int32) (σ : St) : St := wB (wB (wB (wB (wB (wI σ 944 0 (nI 0)) 933 0 (18 * σ.1 934 0) p9) 933 0 (18 * σ.1 934 0 + 1) (nI 0)) 933 0 (18 * σ.1 934 0 + 3) (nI (σ.1 900 0))) 933 0 (18 * σ.1 934 0 + 4) (σ.2.2.2 929 0 2)) 933 0 (18 * σ.1 934 0 + 17) (nI (σ.2.2.1 931 0 0))
set_option maxHeartbeats 800000 in
theorem j0_r (p9 : Int32) (σ : St) : (∀ i, (m_j0 p9 σ).2.2.2 933 0 i = if i = 18 * σ.1 934 0 + 17 then nI (σ.2.2.1 931 0 0) else if i = 18 * σ.1 934 0 + 4 then σ.2.2.2 929 0 2 else if i = 18 * σ.1 934 0 + 3 then nI (σ.1 900 0) else if i = 18 * σ.1 934 0 + 1 then nI 0 else if i = 18 * σ.1 934 0 then p9 else σ.2.2.2 933 0 i) ∧ FRm [] [944] [] [933] σ (m_j0 p9 σ) := by
  unfold m_j0
  refine ⟨fun i => ?_, FRm.B (FRm.B (FRm.B (FRm.B (FRm.B fr944 (by decide)) (by decide)) (by decide)) (by decide)) (by decide)⟩
  rw [wB_3, wB_3, wB_3, wB_3, wB_3, up1_app, up1_app, up1_app, up1_app, up1_app]
  rfl
def m_j9 (p M : Nat) (v : Int32) (T : St) : St := wB (wB (wN T 934 0 (M + 1)) 933 0 (18 * M + 2) v) 923 0 p v
set_option maxHeartbeats 800000 in
theorem j9_r (p M : Nat) (v : Int32) (T : St) : (∀ i, (m_j9 p M v T).2.2.2 933 0 i = if i = 18 * M + 2 then v else T.2.2.2 933 0 i) ∧ (m_j9 p M v T).2.2.2 923 0 = up1 (T.2.2.2 923 0) p v ∧ (m_j9 p M v T).1 934 0 = M + 1 ∧ FRm [934] [] [] [933, 923] T (m_j9 p M v T) := by
  unfold m_j9
  refine ⟨fun i => ?_, ?_, ?_, FRm.B (FRm.B (FRm.N FRm.rf (by decide)) (by decide)) (by decide)⟩
  · rw [wB_o (by decide), wB_3, up1_app]; rfl
  · rw [wB_3, wB_o (by decide)]; rfl
  · show (wN T 934 0 (M + 1)).1 934 0 = _
    exact wN_3
set_option maxHeartbeats 800000 in
theorem hjd_r (p : Nat) (v : Int32) (X : St) : (∀ i, (h_jd p v X).2.2.2 903 0 i = if i = 28 then X.2.2.2 903 0 28 + nI 1 else if i = 32 then X.2.2.2 903 0 3 else if i = 31 then X.2.2.2 903 0 0 else if i = 30 then v else if i = 29 then nI p else X.2.2.2 903 0 i) ∧ (h_jd p v X).2.2.2 905 0 = up1 (X.2.2.2 905 0) (4 * p + 3) v ∧ (∀ F, F ≠ 903 → F ≠ 905 → (h_jd p v X).2.2.2 F = X.2.2.2 F) ∧ (h_jd p v X).2.2.1 = X.2.2.1 := by
  unfold h_jd
  refine ⟨fun i => ?_, ?_, fun F z y => ?_, rfl⟩
  · rw [wB_o (by decide), wB_3, wB_3, wB_3, wB_3, wB_3, up1_app, up1_app, up1_app, up1_app, up1_app]
  · rw [wB_3, wB_o (by decide), wB_o (by decide), wB_o (by decide), wB_o (by decide), wB_o (by decide)]
  · rw [wB_o y, wB_o z, wB_o z, wB_o z, wB_o z, wB_o z]
set_option maxHeartbeats 800000 in
theorem judge_m {p : Nat} {τ : St} (hp : p < 2) (g : (ix (nI p) (τ.1 924 0) ∧ (ix (nI 0) (τ.1 932 0) ∧ ix (nI 2) 4)) ∧ ((ix (nI p) (τ.1 924 0) ∧ (ix (nI 0) (τ.1 932 0) ∧ ix (nI 2) 4)) ∧ τ.2.2.2 920 0 (tn (nI p)) = nI 2 ∧ 0 < τ.2.2.1 931 0 (tn (nI 0)) ∧ ¬ τ.2.2.2 928 0 (tn (nI 2)) = 0 ∧ τ.1 900 0 < τ.2.2.1 927 0 (tn (nI 2)) + 1000 ∧ τ.1 934 0 < 30) ∧ True) (h2 : τ.2.2.1 931 0 0 = 2) : m_judge (nI p) (nI 0) (nI 2) τ = (nI (τ.1 934 0), m_j9 p (τ.1 934 0) (vdl (vdf (τ.1 934 0) (m_jl p 0 2 (τ.1 934 0) 2 (m_j0 (nI p) τ))) 2) (m_jl p 0 2 (τ.1 934 0) 2 (m_j0 (nI p) τ))) := by
  have ej : m_jx (nI p) (nI 0) (nI 2) τ = m_j0 (nI p) τ := by
    unfold m_jx
    rw [mg_0 g]
    rfl
  unfold m_judge
  rw [if_pos g, ej, show tn (nI p) = p from tz (by omega), show tn (nI 0) = 0 from rfl, show tn (nI 2) = 2 from rfl, h2]
  rfl
section QJG
variable {D : va_G} {cI cZ cO : ClassId} {t0 mi : Nat} {l : Launch} {K : Nat} {σ τ ρ : St}
set_option maxHeartbeats 800000 in
theorem Q_judge (hl9 : l.stackTraces = false) (hR : Rl wr0 σ τ) (hJ : JJ K ρ τ) {p : Nat} (hp : p < 2) (hK : K ≤ 900000) (h2 : ρ.2.2.2 905 0 (4 * p) = nI 2) (hc : ¬ ρ.2.2.2 903 0 2 = 0) (hm : ¬ ρ.2.2.2 903 0 2 + nI 998 < ρ.2.2.2 903 0 0) (h30 : ¬ ρ.2.2.2 903 0 28 = nI 30) :
    (∀ k, k < 2 → jC p k (h_jl p k ρ).2 / 16 % 64 ≤ 4 ∧ jC p k (h_jl p k ρ).2 < 2 ^ 62 ∧ ix ((h_jl p k ρ).2.2.2.2 903 0 (16 + 6 * k)) 12 ∧ ix ((h_jl p k ρ).2.2.2.2 903 0 (16 + 6 * k + 1)) 4 ∧ JN (h_jl p k ρ).2) ∧ JN (h_jl p 2 ρ).2 ∧
    ∃ σ' τ', (∀ (L : Lay) (ow : Nat → Prop), YI D cI cZ cO t0 mi l yX8_judge cX8_judge 11 (some FieldType.int) 10 300 10 200 [.ref (L 899 0), .int (nI p), .int (nI 0), .int (nI 2)] L σ ow 0 ((h_jl p 2 ρ).2.2.2.2 903 0 28) σ') ∧ Rl wr0 σ' τ' ∧ JJ K (h_jd p (h_jl p 2 ρ).1 (h_jl p 2 ρ).2) τ' ∧ (0 < τ'.1 934 0 ∧ τ'.2.2.2 933 0 (18 * (τ'.1 934 0 - 1) + 17) = nI 2 ∧ vdl (vdf (τ'.1 934 0 - 1) τ') 2 = (h_jl p 2 ρ).1) := by
  have gr := hR.2.2.2.2.2.2.2.2.2.2.2.2.2.2.2.1
  have gn := hR.2.2.2.2.2.2.1
  have sb := hR.2.2.2.2.2.1
  obtain ⟨hN, hP, hA, hT, hM, hQ, hG, hF, hW, hC⟩ := hJ
  have u0 := (hT.1.2 0 (by decide)).2.2.2.2.2.2
  have u1 := (hT.1.2 1 (by decide)).2.2.2.2.2.2
  have u2 := (hT.1.2 2 (by decide)).2.2.2.2.2.2
  have u3 := (hT.1.2 3 (by decide)).2.2.2.2.2.2
  have mK := hM.2.2.2
  have h27 : τ.2.2.1 927 0 2 ≤ τ.1 900 0 := sb.2.2.2.2.2.2.1 2
  have h28 : ¬ τ.2.2.2 928 0 2 = 0 := fun z => hc (by rw [hG.2.1, if_pos z])
  have h17 : ∀ i, i < 288 → τ.2.2.2 917 0 i = (-1) ∨ ix (τ.2.2.2 917 0 i) 4 := fun i hi => by
    rcases sb.2.2.2.2.2.2.2.2.2.1 i (by omega) with z | z | z
    · exact Or.inl z
    · rw [hT.1.1] at z; exact Or.inr z
    · rw [hA.1] at z; omega
  have hmin : τ.1 900 0 < τ.2.2.1 927 0 2 + 1000 := by
    rw [hG.2.1, if_neg h28, hM.1, nI_add] at hm
    have h9 : ¬ τ.2.2.1 927 0 2 + 1 + 998 < τ.1 900 0 := fun z => hm ((nlt (by omega) (by omega)).mpr z)
    omega
  have h34 : τ.1 934 0 < 30 := by
    have a := hW.2.1
    have b : τ.1 934 0 ≠ 30 := fun z => h30 (by rw [hW.1, z])
    omega
  have hF2 := hF.2.1
  have gx : ix (nI p) (τ.1 924 0) ∧ (ix (nI 0) (τ.1 932 0) ∧ ix (nI 2) 4) := ⟨by rw [hA.1]; exact ixz hp (by decide), by rw [hF.1]; decide, by decide⟩
  have e := judge_m hp ⟨gx, ⟨gx, by rw [tz (by omega : p < 1000), ← (hQ.2.2.2.2 p hp).1]; exact h2, by rw [show tn (nI 0) = 0 from rfl, hF2]; decide, h28, hmin, h34⟩, trivial⟩ hF2
  obtain ⟨j1, j2⟩ := j0_r (nI p) τ
  have hz0 : ∀ i, i < 18 → τ.2.2.2 933 0 (18 * τ.1 934 0 + i) = 0 := fun i hi => gr.2 (τ.1 934 0) (by have := gn.2.2.2.2.1; omega) i hi
  have hd := hG.2.2
  have JZ0 : JZ K (τ.1 934 0) 0 (nI 0) (τ.2.2.2 929 0 2) ρ (m_j0 (nI p) τ) ρ (m_j0 (nI p) τ) := by
    refine ⟨⟨hN, hA.fr j2 (fun p _ => rfl), hT.fr j2 rfl, hM.fr j2 (fun _ _ _ _ => rfl), hG.fr j2 ⟨rfl, rfl⟩, hF.fr j2 (fun _ _ _ => rfl), by rw [j2.2.2.2 928 (by decide)]; exact h28, by rw [j2.1 900 (by decide), j2.2.2.1 927 (by decide)]; exact h27, by rw [j2.2.2.2 917 (by decide)]; exact h17, fun j hj => absurd hj (Nat.not_lt_zero _)⟩, rfl, ?_, hd.1, ⟨rfl, fun _ _ _ => rfl, fun _ _ => rfl⟩, FRm.rf, fun _ _ => rfl⟩
    rw [j1, if_neg (by omega), if_pos rfl]
  have all := jl_sim JZ0 hd.2 hp hK
  refine ⟨fun k hk => ?_, (all 2 (by decide)).1.1, ?_⟩
  · have a := (all k (by omega)).1
    obtain ⟨-, -, -, -, -, -, -, c8⟩ := jm_eq a hk hp hK
    obtain ⟨b1, b2, b3, b4, b5, b6, b7⟩ := a.2.2.2.2.2.1.2.2 k hk
    have f0 := b1 0 (by decide)
    rw [Nat.add_zero, Nat.add_zero] at f0
    exact ⟨(js_sim a hk hp hK).2, c8, by rw [f0]; exact ixz b2 (by decide), by rw [b1 1 (by decide)]; exact ixz b3 (by decide), a.1⟩
  · have z2 := all 2 (by decide)
    have e3 : (m_judge (nI p) (nI 0) (nI 2) τ).2.2.1 944 0 = nI 0 := by
      rw [e]
      have a := z2.2.2.2.2.2.1.2.1 944 (by decide)
      show (m_jl p 0 2 (τ.1 934 0) 2 (m_j0 (nI p) τ)).2.1 944 0 = _
      rw [a]
      exact t944 (τ := τ)
    obtain ⟨σ', h1, h3⟩ := oq_judge (D := D) (cI := cI) (cZ := cZ) (cO := cO) (t0 := t0) (mi := mi) hl9 hR (nI p) (nI 0) (nI 2) e3
    rw [e] at h1 h3
    clear e e3 all JZ0 gr gn sb
    generalize h_jl p 2 ρ = Q at *
    generalize m_jl p 0 2 (τ.1 934 0) 2 (m_j0 (nI p) τ) = T at *
    obtain ⟨i1, i2, i3, i4, i5, i6, i7⟩ := z2
    rw [← i2] at h1 h3
    obtain ⟨lN, lA, lT, lM, lG, lF, l28, l27, l17, lj⟩ := i1
    have e28 : Q.2.2.2.2 903 0 28 = nI (τ.1 934 0) := by rw [i5.2.2 28 (Or.inr ⟨by decide, by decide⟩)]; exact hW.1
    refine ⟨σ', _, by rw [e28]; exact h1, h3, ?_⟩
    obtain ⟨d1, d2, d3, d4⟩ := hjd_r p Q.1 Q.2
    obtain ⟨k1, k2, k3, kf⟩ := j9_r p (τ.1 934 0) Q.1 T
    clear h1 h3
    have hv : vdl (vdf (τ.1 934 0) (m_j9 p (τ.1 934 0) Q.1 T)) 2 = Q.1 := by
      refine Eq.trans (vdl_c 2 (fun j hj => ?_)) i2.symm
      unfold vdf
      rw [k1, k1, k1, if_neg (by omega), if_neg (by omega), if_neg (by omega)]
    generalize h_jd p Q.1 Q.2 = R at *
    generalize m_j9 p (τ.1 934 0) Q.1 T = U at *
    have q33 : ∀ j, j < 2 → Q.2.2.2.2 903 0 (33 + j) = T.2.2.2 933 0 (18 * τ.1 934 0 + 5 + j) := fun j hj => (lj j hj).1.symm
    have r16 : ∀ i, i < 28 → R.2.2.2 903 0 i = Q.2.2.2.2 903 0 i := fun i hi => by
      rw [d1, if_neg (by omega), if_neg (by omega), if_neg (by omega), if_neg (by omega), if_neg (by omega)]
    have fA : FRm [934] [944] [930, 913] [933, 912, 923] τ U := by
      refine ⟨fun F z => ?_, fun F z => ?_, fun F z => ?_, fun F z => ?_⟩
      · rw [kf.1 F z, i6.1 F (by simp), j2.1 F (by simp)]
      · rw [kf.2.1 F (by simp), i6.2.1 F (by simp), j2.2.1 F z]
      · rw [kf.2.2.1 F (by simp), i6.2.2.1 F z, j2.2.2.1 F (by simp)]
      · simp only [List.mem_cons, List.not_mem_nil, or_false, not_or] at z
        rw [kf.2.2.2 F (by simp only [List.mem_cons, List.not_mem_nil, or_false]; omega), i6.2.2.2 F (by simp only [List.mem_cons, List.not_mem_nil, or_false]; omega), j2.2.2.2 F (by simp only [List.mem_cons, List.not_mem_nil, or_false]; omega)]
    refine ⟨⟨by unfold JN; rw [d4]; exact lN, hP.fr fA ((d3 901 (by decide) (by decide)).trans (i5.2.1 901 (by decide) (by decide))), lA.fr kf (fun p _ => by rw [d4]), lT.fr kf (by rw [d3 902 (by decide) (by decide)]), lM.fr kf (fun i hi _ _ => r16 i (by omega)), ?_, lG.fr kf ⟨r16 2 (by decide), r16 3 (by decide)⟩, lF.fr kf (fun i _ hi => r16 i hi), ?_, hC.fr fA (fun p _ => by rw [d4, i5.1])⟩, by rw [k3]; exact Nat.succ_pos _, ?_, ?_⟩
    · -- the queue
      obtain ⟨q10, q2, qi, qd, qp⟩ := hQ
      have w5 : ∀ i, i ≠ 4 * p + 3 → R.2.2.2 905 0 i = ρ.2.2.2 905 0 i := fun i hi => by
        rw [d2, up1_n hi, i5.2.1 905 (by decide) (by decide)]
      have f25 := fA.2.2.1 925 (by decide)
      have f26 := fA.1 926 (by decide)
      refine ⟨by rw [w5 10 (by omega), f26]; exact q10, by rw [f26]; exact q2, fun i hi => ?_, by rw [f26, f25]; exact qd, fun p' hp' => ?_⟩
      · rw [f26] at hi
        rw [w5 _ (by omega), f25]
        exact qi i hi
      · obtain ⟨b1, b2, b3, b4, b5, b6⟩ := qp p' hp'
        have f23 : U.2.2.2 923 0 = up1 (τ.2.2.2 923 0) p Q.1 := by
          rw [k2, i6.2.2.2 923 (by decide), j2.2.2.2 923 (by decide)]
        rw [w5 _ (by omega), w5 _ (by omega), w5 _ (by omega), fA.2.2.2 920 (by decide), fA.2.2.1 921 (by decide), fA.2.2.1 922 (by decide), f23]
        refine ⟨b1, b2, b3, ?_, b5, b6⟩
        by_cases z : p' = p
        · subst z; rw [d2, up1_s, up1_s]
        · rw [w5 _ (by omega), up1_n z]; exact b4
    · -- the paper
      have e9 : 18 * (U.1 934 0 - 1) = 18 * τ.1 934 0 := by rw [k3]; rfl
      refine ⟨by rw [d1, if_pos rfl, e28, k3, nI_add], by rw [k3]; omega, fun _ => ?_⟩
      rw [e9]
      have t7 : ∀ i, i < 18 * τ.1 934 0 + 5 ∨ 18 * τ.1 934 0 + 7 ≤ i ∧ i < 18 * τ.1 934 0 + 11 ∨ 18 * τ.1 934 0 + 13 ≤ i → T.2.2.2 933 0 i = (m_j0 (nI p) τ).2.2.2 933 0 i := i7
      refine ⟨?_, ?_, ?_, ?_, ?_, ?_, ?_, ?_⟩
      · rw [d1, if_neg (by decide), if_neg (by decide), if_neg (by decide), if_neg (by decide), if_pos rfl, k1, if_neg (by omega), t7 _ (Or.inl (by omega)), j1, if_neg (by omega), if_neg (by omega), if_neg (by omega), if_neg (by omega), if_pos rfl]
      · rw [k1, if_neg (by omega), t7 _ (Or.inl (by omega)), j1, if_neg (by omega), if_neg (by omega), if_neg (by omega), if_pos rfl]; rfl
      · rw [d1, if_neg (by decide), if_neg (by decide), if_neg (by decide), if_pos rfl, k1, if_pos rfl]
      · rw [d1, if_neg (by decide), if_neg (by decide), if_pos rfl, k1, if_neg (by omega), t7 _ (Or.inl (by omega)), j1, if_neg (by omega), if_neg (by omega), if_pos rfl, i5.2.2 0 (Or.inl (by decide))]
        exact hM.1
      · rw [d1, if_neg (by decide), if_pos rfl, k1, if_neg (by omega), i3, i4]
      · rw [d1, if_neg (by decide), if_neg (by decide), if_neg (by decide), if_neg (by decide), if_neg (by decide), k1, if_neg (by omega)]
        exact q33 0 (by decide)
      · rw [d1, if_neg (by decide), if_neg (by decide), if_neg (by decide), if_neg (by decide), if_neg (by decide), k1, if_neg (by omega)]
        exact q33 1 (by decide)
      · rw [k1, if_neg (by omega), t7 _ (Or.inr (Or.inl ⟨by omega, by omega⟩)), j1, if_neg (by omega), if_neg (by omega), if_neg (by omega), if_neg (by omega), if_neg (by omega)]
        exact hz0 7 (by decide)
    · rw [k3, k1, Nat.add_sub_cancel, if_neg (by omega), i7 _ (Or.inr (Or.inr (by omega))), j1, if_pos rfl, hF2]
    · rw [k3, Nat.add_sub_cancel]; exact hv
set_option maxHeartbeats 800000 in
theorem Q_judgeAnew (hl9 : l.stackTraces = false) (hR : Rl wr0 σ τ) (hJ : JJ K ρ τ) {v : Int32} (hv : 0 < τ.1 934 0 ∧ τ.2.2.2 933 0 (18 * (τ.1 934 0 - 1) + 17) = nI 2 ∧ vdl (vdf (τ.1 934 0 - 1) τ) 2 = v) : ∃ σ' τ', (∀ (L : Lay) (ow : Nat → Prop), YI D cI cZ cO t0 mi l yX8_judgeAnew cX8_judgeAnew 2 (some FieldType.int) 7 142 1 6 [.ref (L 899 0), .int (ρ.2.2.2 903 0 28 - nI 1)] L σ ow 0 v σ') ∧ Rl wr0 σ' τ' ∧ JJ K ρ τ' := by
  have gr := hR.2.2.2.2.2.2.2.2.2.2.2.2.2.2.2.1
  have gn := hR.2.2.2.2.2.2.1
  have hW := hJ.2.2.2.2.2.2.2.2.1
  obtain ⟨v0, v1, v2⟩ := hv
  have h30 := hW.2.1
  have ep : ρ.2.2.2 903 0 28 - nI 1 = nI (τ.1 934 0 - 1) := by rw [hW.1]; exact pk_sub (by omega)
  rw [ep]
  have h6 := hR.2.2.2.2.1.2.2.1 (τ.1 934 0 - 1)
  have e306 : σ.1 306 (τ.1 934 0 - 1) = 2 := by
    have a := (gr.1 (τ.1 934 0 - 1) (by have := gn.2.2.2.2.1; omega)).2.2.2.2.2.1
    rw [v1] at a
    exact ((nI_eq (by omega) (by omega)).mp a).symm
  have g : ix (nI (τ.1 934 0 - 1)) (τ.1 934 0) ∧ True ∧ True := ⟨ixz (by omega) (by omega), trivial, trivial⟩
  have e : m_judgeAnew (nI (τ.1 934 0 - 1)) (fun q => σ.1 306 q) τ = (v, wI τ 944 0 (nI 0)) := by
    unfold m_judgeAnew
    rw [mg_0 g, if_neg (not_not_intro9 g), tz (by omega : τ.1 934 0 - 1 < 1000)]
    show (vdl (vdf (τ.1 934 0 - 1) (wI τ 944 0 (nI 0))) (σ.1 306 (τ.1 934 0 - 1)), wI τ 944 0 (nI 0)) = _
    rw [e306, ← v2]
    rfl
  obtain ⟨σ', h1, h2⟩ := oq_judgeAnew (D := D) (cI := cI) (cZ := cZ) (cO := cO) (t0 := t0) (mi := mi) hl9 hR (nI (τ.1 934 0 - 1)) (by rw [e]; exact t944 (τ := τ))
  rw [e] at h1 h2
  exact ⟨σ', _, h1, h2, hJ.tau w944⟩
end QJG
