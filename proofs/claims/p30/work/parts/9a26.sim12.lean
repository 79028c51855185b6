/-! clamping, planning -/
set_option maxHeartbeats 400000 in
theorem clw_1 {C h : Nat} (hC : C < 17592186044416) : (C + h * 17592186044416) % 16 = C % 16 ∧ (C + h * 17592186044416) / 16 % 64 = C / 16 % 64 ∧ (C + h * 17592186044416) / 17592186044416 = h := by
  refine ⟨by omega, by omega, by omega⟩
set_option maxHeartbeats 400000 in
theorem clw_2 {C h : Nat} (hC : C < 17592186044416) : (C + h * 17592186044416) / 1024 % 256 = C / 1024 % 256 ∧ (C + h * 17592186044416) / 262144 % 256 = C / 262144 % 256 ∧ (C + h * 17592186044416) / 67108864 % 256 = C / 67108864 % 256 ∧ (C + h * 17592186044416) / 17179869184 % 1024 = C / 17179869184 % 1024 := by
  refine ⟨by omega, by omega, by omega, by omega⟩
set_option maxHeartbeats 400000 in
theorem clw_3 {C h : Nat} (hC : C < 17592186044416) (hh : h ≤ 9) : C + h * 17592186044416 < 281474976710656 := by omega
set_option maxHeartbeats 400000 in
theorem clw_4 {C : Nat} (hC : C < 281474976710656) (h : C / 17592186044416 % 16 = 0) : C < 17592186044416 := by omega
def clw (C h : Nat) : Nat := C + h * 17592186044416
set_option maxHeartbeats 400000 in
theorem clw_hp {C h : Nat} (hC : C < 17592186044416) : hp0 (clw C h) = hp0 C ∧ hp1 (clw C h) = hp1 C ∧ hp2 (clw C h) = hp2 C ∧ hp3 (clw C h) = hp3 C := by
  have a := (clw_1 (h := h) hC).2.1
  obtain ⟨b1, b2, b3, b4⟩ := clw_2 (h := h) hC
  unfold hp0 hp1 hp2 hp3 clw
  rw [a, b1, b2, b3, b4]
  exact ⟨rfl, rfl, rfl, rfl⟩
set_option maxHeartbeats 400000 in
theorem clw_QE {C h i : Nat} {τ τ' : St} (hC : C < 17592186044416) (hh : h ≤ 9) (q : QE C i τ) (e5 : τ'.2.2.2 915 0 i = τ.2.2.2 915 0 i) (e6 : τ'.2.2.2 916 0 i = nI h) (e7 : τ'.2.2.2 917 = τ.2.2.2 917) (e8 : τ'.2.2.2 918 = τ.2.2.2 918) : QE (clw C h) i τ' := by
  obtain ⟨⟨h1, h2, h3⟩, h4, h5⟩ := q
  obtain ⟨a1, a2, a3⟩ := clw_1 (h := h) hC
  obtain ⟨p0, p1, p2, p3⟩ := clw_hp (h := h) hC
  have a3' : clw C h / 17592186044416 % 16 = h := by
    have : clw C h / 17592186044416 = h := a3
    rw [this]; omega
  have a2' : clw C h / 16 % 64 = C / 16 % 64 := a2
  have a1' : clw C h % 16 = C % 16 := a1
  refine ⟨⟨clw_3 hC hh, by rw [a2', e7]; exact h2, fun z => ?_⟩, by rw [a1', e5]; exact h4, by rw [a3', e6]⟩
  rw [a2'] at z
  rw [p0, p1, p2, p3, e8]
  exact h3 z
set_option maxHeartbeats 400000 in
theorem cnt_up {f : Nat → Nat} {c w : Nat} (h0 : f c / 17592186044416 % 16 = 0) (hw : ¬ w / 17592186044416 % 16 = 0) : ∀ n, cntC (up1 f c w) n = cntC f n + (if c < n then 1 else 0)
  | 0 => rfl
  | n + 1 => by
    have ih := cnt_up h0 hw n
    show cntC (up1 f c w) n + (if up1 f c w n / 17592186044416 % 16 = 0 then 0 else 1) = cntC f n + (if f n / 17592186044416 % 16 = 0 then 0 else 1) + _
    rw [ih]
    by_cases e : c = n
    · subst e
      rw [up1_s, if_neg hw, if_pos h0, if_neg (Nat.lt_irrefl _), if_pos (Nat.lt_succ_self _)]
    · rw [up1_n (fun z => e z.symm)]
      by_cases e2 : c < n
      · rw [if_pos e2, if_pos (Nat.lt_succ_of_lt e2)]; omega
      · have e3 : ¬ c < n + 1 := by omega
        rw [if_neg e2, if_neg e3]; omega
set_option maxHeartbeats 400000 in
theorem wN_3 {σ : St} {F k v : Nat} : (wN σ F k v).1 F k = v := by
  show up2 σ.1 F k v F k = _
  exact up2_s
section QCL
variable {D : va_G} {cI cZ cO : ClassId} {t0 mi : Nat} {l : Launch} {K : Nat} {σ τ ρ : St}
set_option maxHeartbeats 400000 in
theorem Q_clamp (hl9 : l.stackTraces = false) (hR : Rl wr0 σ τ) (hJ : JJ K ρ τ) {p c h : Nat} (hp : p < 2) (hc : c < 48) (h0 : ρ.2.2.2 905 0 (4 * p) = 0) (hz : ρ.2.2.1 900 p c / 17592186044416 % 16 = 0) (hm : ¬ cntC (ρ.2.2.1 900 p) 48 = 3) (h1 : 1 ≤ h) (h9 : h ≤ 9) : ∃ σ' τ', (∀ (L : Lay) (ow : Nat → Prop), YI D cI cZ cO t0 mi l yX8_clamp cX8_clamp 7 (some FieldType.int) 7 142 3 18 [.ref (L 899 0), .int (nI p), .int (nI (c % 12)), .int (nI (c / 12)), .int (nI h)] L σ ow 0 (nI (cntC (ρ.2.2.1 900 p) 48 + 1)) σ') ∧ Rl wr0 σ' τ' ∧ JJ K (wA ρ 900 p c (clw (ρ.2.2.1 900 p c) h)) τ' := by
  obtain ⟨hN, hP, hA, hT, hM, hQ, hG, hF, hW, hC⟩ := hJ
  have q := (hA.2 p hp).2 c hc
  have e20 : τ.2.2.2 920 0 p = 0 := (hQ.2.2.2.2 p hp).1.symm.trans h0
  have e16 : τ.2.2.2 916 0 (144 * p + c) = 0 := by rw [← q.2.2, hz]; rfl
  have hC0 := clw_4 q.1.1 hz
  have e19 : τ.2.2.1 919 0 p < 3 := by
    have a := hR.2.2.2.2.2.1.2.2.1 p
    have b := (hC p hp).1
    omega
  have gg : ix (nI p) (τ.1 924 0) ∧ (ix (nI (c % 12)) 12 ∧ ix (nI (c / 12)) 12) := ⟨by rw [hA.1]; exact ixz hp (by decide), ixz (by omega) (by decide), ixz (by omega) (by decide)⟩
  have ei : (if ¬ (ix (nI p) (τ.1 924 0) ∧ (ix (nI (c % 12)) 12 ∧ ix (nI (c / 12)) 12)) then 0 else 144 * tn (nI p) + 12 * tn (nI (c / 12)) + tn (nI (c % 12))) = 144 * p + c := by
    rw [if_neg (not_not_intro9 gg), tz (by omega : p < 1000), tz (by omega : c / 12 < 1000), tz (by omega : c % 12 < 1000)]
    omega
  have hi : (nI h).toInt = (h : Int) := iz (by omega)
  have g : (ix (nI p) (τ.1 924 0) ∧ (ix (nI (c % 12)) 12 ∧ ix (nI (c / 12)) 12)) ∧ (1 ≤ (nI h).toInt ∧ (nI h).toInt ≤ 9) ∧ ((ix (nI p) (τ.1 924 0) ∧ (ix (nI (c % 12)) 12 ∧ ix (nI (c / 12)) 12)) ∧ τ.2.2.2 920 0 (tn (nI p)) = 0 ∧ τ.2.2.2 916 0 (if ¬ (ix (nI p) (τ.1 924 0) ∧ (ix (nI (c % 12)) 12 ∧ ix (nI (c / 12)) 12)) then 0 else 144 * tn (nI p) + 12 * tn (nI (c / 12)) + tn (nI (c % 12))) = 0 ∧ τ.2.2.1 919 0 (tn (nI p)) < 3) :=
    ⟨gg, by rw [hi]; omega, gg, by rw [tz (by omega : p < 1000)]; exact e20, by rw [ei]; exact e16, by rw [tz (by omega : p < 1000)]; exact e19⟩
  have e : m_clamp (nI p) (nI (c % 12)) (nI (c / 12)) (nI h) τ = (nI (τ.2.2.1 919 0 p + 1), wA (wB (wI τ 944 0 (nI 0)) 916 0 (144 * p + c) (nI h)) 919 0 p (τ.2.2.1 919 0 p + 1)) := by
    unfold m_clamp
    rw [mg_0 g, if_pos g, ei, tz (by omega : p < 1000)]
  have f : FRm [] [944] [919] [916] τ (wA (wB (wI τ 944 0 (nI 0)) 916 0 (144 * p + c) (nI h)) 919 0 p (τ.2.2.1 919 0 p + 1)) := FRm.A (FRm.B fr944 (by decide)) (by decide)
  have v16 : (wA (wB (wI τ 944 0 (nI 0)) 916 0 (144 * p + c) (nI h)) 919 0 p (τ.2.2.1 919 0 p + 1)).2.2.2 916 0 = up1 (τ.2.2.2 916 0) (144 * p + c) (nI h) := by
    show (wB (wI τ 944 0 (nI 0)) 916 0 (144 * p + c) (nI h)).2.2.2 916 0 = _
    exact wB_3
  have v19 : (wA (wB (wI τ 944 0 (nI 0)) 916 0 (144 * p + c) (nI h)) 919 0 p (τ.2.2.1 919 0 p + 1)).2.2.1 919 0 = up1 (τ.2.2.1 919 0) p (τ.2.2.1 919 0 p + 1) := wA_3
  have r0 : (wA ρ 900 p c (clw (ρ.2.2.1 900 p c) h)).2.2.1 900 p = up1 (ρ.2.2.1 900 p) c (clw (ρ.2.2.1 900 p c) h) := wA_3
  have r1 : ∀ p', p' ≠ p → (wA ρ 900 p c (clw (ρ.2.2.1 900 p c) h)).2.2.1 900 p' = ρ.2.2.1 900 p' := fun p' z => by
    show up3 ρ.2.2.1 900 p c (clw (ρ.2.2.1 900 p c) h) 900 p' = _
    exact up3_n (fun y => z y.2)
  have rN : JN (wA ρ 900 p c (clw (ρ.2.2.1 900 p c) h)) := by
    unfold JN at hN ⊢
    rw [wA_o (by decide), wA_o (by decide), wA_o (by decide)]
    exact hN
  have a3' : clw (ρ.2.2.1 900 p c) h / 17592186044416 % 16 = h := by
    have : clw (ρ.2.2.1 900 p c) h / 17592186044416 = h := (clw_1 (h := h) hC0).2.2
    rw [this]; omega
  have hlt : clw (ρ.2.2.1 900 p c) h < 281474976710656 := clw_3 hC0 h9
  have key : ∀ τ', τ'.2.2.2 915 0 (144 * p + c) = τ.2.2.2 915 0 (144 * p + c) → τ'.2.2.2 916 0 (144 * p + c) = nI h → τ'.2.2.2 917 = τ.2.2.2 917 → τ'.2.2.2 918 = τ.2.2.2 918 → QE (clw (ρ.2.2.1 900 p c) h) (144 * p + c) τ' := fun τ' => clw_QE hC0 h9 q
  have cu := cnt_up (f := ρ.2.2.1 900 p) (c := c) (w := clw (ρ.2.2.1 900 p c) h) hz (by rw [a3']; omega) 48
  rw [if_pos hc] at cu
  obtain ⟨σ', h1, h2⟩ := oq_clamp (D := D) (cI := cI) (cZ := cZ) (cO := cO) (t0 := t0) (mi := mi) hl9 hR (nI p) (nI (c % 12)) (nI (c / 12)) (nI h) (by rw [e]; exact t944 (τ := τ))
  rw [e] at h1 h2
  rw [(hC p hp).1] at h1
  refine ⟨σ', _, h1, h2, ?_⟩
  have rB : (wA ρ 900 p c (clw (ρ.2.2.1 900 p c) h)).2.2.2 = ρ.2.2.2 := rfl
  clear h1 h2 g gg ei e hz hC0 a3' q
  generalize clw (ρ.2.2.1 900 p c) h = w at *
  generalize wA ρ 900 p c w = R at *
  generalize wA (wB (wI τ 944 0 (nI 0)) 916 0 (144 * p + c) (nI h)) 919 0 p (τ.2.2.1 919 0 p + 1) = T at *
  refine ⟨rN, hP.fr f (by rw [rB]), ⟨by rw [f.1 924 (by decide)]; exact hA.1, fun p' hp' => ?_⟩, hT.fr f (by rw [rB]), hM.fr f (fun i _ _ _ => by rw [rB]), hQ.fr f (by rw [rB]), hG.fr f (by rw [rB]; exact ⟨rfl, rfl⟩), hF.fr f (fun i _ _ => by rw [rB]), hW.fr f (fun i _ _ => by rw [rB]), fun p' hp' => ?_⟩
  · have g := hA.2 p' hp'
    by_cases z : p' = p
    · subst z
      rw [r0]
      refine ⟨fun i => ?_, fun i hi => ?_⟩
      · rw [up1_app]
        split
        · exact Nat.lt_of_lt_of_le hlt (by decide)
        · exact g.1 i
      · rw [up1_app]
        by_cases y : i = c
        · rw [if_pos y, y]
          exact key T (by rw [f.2.2.2 915 (by decide)]) (by rw [v16, up1_s]) (f.2.2.2 917 (by decide)) (f.2.2.2 918 (by decide))
        · rw [if_neg y]
          have g2 := g.2 i hi
          unfold QE QC at g2 ⊢
          rw [f.2.2.2 915 (by decide), f.2.2.2 917 (by decide), f.2.2.2 918 (by decide), v16, up1_n (by omega)]
          exact g2
    · rw [r1 p' z]
      refine ⟨g.1, fun i hi => ?_⟩
      have g2 := g.2 i hi
      unfold QE QC at g2 ⊢
      rw [f.2.2.2 915 (by decide), f.2.2.2 917 (by decide), f.2.2.2 918 (by decide), v16, up1_n (by omega)]
      exact g2
  · rw [v19, f.2.2.2 920 (by decide)]
    refine ⟨?_, (hC p' hp').2⟩
    by_cases z : p' = p
    · subst z; rw [up1_s, r0, cu, (hC p' hp').1]
    · rw [up1_n z, r1 p' z]; exact (hC p' hp').1
/-- the law's rows when a pallet has been planned -/
def h_pn (p pr : Nat) (ρ : St) : St := wB (wB (wB (wB ρ 905 0 (4 * p) (nI 1)) 905 0 (4 * p + 1) (nI pr)) 905 0 (8 + tn (ρ.2.2.2 905 0 10)) (nI p)) 905 0 10 (nI (tn (ρ.2.2.2 905 0 10) + 1))
set_option maxHeartbeats 400000 in
theorem Q_plan (hl9 : l.stackTraces = false) (hR : Rl wr0 σ τ) (hJ : JJ K ρ τ) {p pr : Nat} (hp : p < 2) (hpr : pr < 3) (h0 : ρ.2.2.2 905 0 (4 * p) = 0) (hw : (h_run 2 0 0 pr 0 0 (cpj p 2 48 ρ)).1 = 0) : ∃ σ' τ', (∀ (L : Lay) (ow : Nat → Prop), YI D cI cZ cO t0 mi l yX8_plan cX8_plan 4 (some FieldType.int) 14 480 6 50 [.ref (L 899 0), .int (nI p), .int (nI pr)] L σ ow 0 (nI (tn (ρ.2.2.2 905 0 10) + 1)) σ') ∧ Rl wr0 σ' τ' ∧ JJ K (h_pn p pr ρ) τ' := by
  have hrun := (cp_sim (fr := 0) hJ hp hpr).2.1
  rw [hw] at hrun
  have fr := FR_runs0 p pr 0 τ
  obtain ⟨hN, hP, hA, hT, hM, hQ, hG, hF, hW, hC⟩ := hJ
  obtain ⟨q10, q2, qi, qd, qp⟩ := hQ
  have e20 : τ.2.2.2 920 0 p = 0 := (qp p hp).1.symm.trans h0
  have gq := hR.2.2.2.2.2.2.2.2.2.2.2.2.1
  have gn := hR.2.2.2.2.2.2.1
  have hin : ∀ i, i < τ.1 926 0 → τ.2.2.1 925 0 i ≠ p := fun i hi z => by
    have a := (gq.1 i (by have := gn.2.2.1; omega)).2.2.1
    rw [z, e20] at a
    exact absurd a (by decide)
  have h22 : τ.2.2.1 922 0 p = 0 := hR.2.2.2.2.2.1.2.2.2.2.2.2.2.2.2.2 p e20
  have hQ1 : τ.1 926 0 ≤ 1 := by
    by_cases z : τ.1 926 0 = 2
    · exfalso
      have a0 := (qi 0 (by omega)).2
      have a1 := (qi 1 (by omega)).2
      have b0 := hin 0 (by omega)
      have b1 := hin 1 (by omega)
      have := qd z
      omega
    · omega
  have t10 : tn (ρ.2.2.2 905 0 10) = τ.1 926 0 := by rw [q10, tn_nI (by omega)]
  have gx : ix (nI p) (τ.1 924 0) ∧ ix (nI pr) (τ.1 904 0) := ⟨by rw [hA.1]; exact ixz hp (by decide), by rw [hP.2.2]; exact ixz hpr (by decide)⟩
  have g : (ix (nI p) (τ.1 924 0) ∧ ix (nI pr) (τ.1 904 0)) ∧ True ∧ True := ⟨gx, trivial, trivial⟩
  have e : m_plan (nI p) (nI pr) τ = (nI (τ.1 926 0 + 1), wN (wA (wA (wB (wI (m_runs0 p pr 0 τ).2 944 0 (nI 0)) 920 0 p (nI 1)) 921 0 p pr) 925 0 (τ.1 926 0) p) 926 0 (τ.1 926 0 + 1)) := by
    unfold m_plan
    rw [mg_0 g, tz (by omega : p < 1000), tz (by omega : pr < 1000), if_neg (not_not_intro9 gx), if_neg (not_not_intro9 e20), if_neg (not_not_intro9 hrun.symm), if_pos g]
  rw [t10]
  generalize (m_runs0 p pr 0 τ).2 = Y at fr e
  have f : FRm [943, 926] [940, 941, 942, 944] [936, 937, 938, 939, 921, 925] [935, 920] τ (wN (wA (wA (wB (wI Y 944 0 (nI 0)) 920 0 p (nI 1)) 921 0 p pr) 925 0 (τ.1 926 0) p) 926 0 (τ.1 926 0 + 1)) := by
    refine FRm.N (FRm.A (FRm.A (FRm.B (FRm.I (σ' := Y) ?_ (by decide)) (by decide)) (by decide)) (by decide)) (by decide)
    exact ⟨fun F z => fr.1 F (fun y => z (by revert y; simp only [List.mem_cons, List.not_mem_nil, or_false]; omega)), fun F z => fr.2.1 F (fun y => z (by revert y; simp only [List.mem_cons, List.not_mem_nil, or_false]; omega)), fun F z => fr.2.2.1 F (fun y => z (by revert y; simp only [List.mem_cons, List.not_mem_nil, or_false]; omega)), fun F z => fr.2.2.2 F (fun y => z (by revert y; simp only [List.mem_cons, List.not_mem_nil, or_false]; omega))⟩
  have v26 : (wN (wA (wA (wB (wI Y 944 0 (nI 0)) 920 0 p (nI 1)) 921 0 p pr) 925 0 (τ.1 926 0) p) 926 0 (τ.1 926 0 + 1)).1 926 0 = τ.1 926 0 + 1 := wN_3
  have v25 : (wN (wA (wA (wB (wI Y 944 0 (nI 0)) 920 0 p (nI 1)) 921 0 p pr) 925 0 (τ.1 926 0) p) 926 0 (τ.1 926 0 + 1)).2.2.1 925 0 = up1 (τ.2.2.1 925 0) (τ.1 926 0) p := by
    show (wA (wA (wB (wI Y 944 0 (nI 0)) 920 0 p (nI 1)) 921 0 p pr) 925 0 (τ.1 926 0) p).2.2.1 925 0 = _
    rw [wA_3, wA_o (by decide)]
    show up1 (Y.2.2.1 925 0) _ _ = _
    rw [fr.2.2.1 925 (by decide)]
  have v21 : (wN (wA (wA (wB (wI Y 944 0 (nI 0)) 920 0 p (nI 1)) 921 0 p pr) 925 0 (τ.1 926 0) p) 926 0 (τ.1 926 0 + 1)).2.2.1 921 0 = up1 (τ.2.2.1 921 0) p pr := by
    show (wA (wA (wB (wI Y 944 0 (nI 0)) 920 0 p (nI 1)) 921 0 p pr) 925 0 (τ.1 926 0) p).2.2.1 921 0 = _
    rw [wA_o (by decide), wA_3]
    show up1 (Y.2.2.1 921 0) _ _ = _
    rw [fr.2.2.1 921 (by decide)]
  have v20 : (wN (wA (wA (wB (wI Y 944 0 (nI 0)) 920 0 p (nI 1)) 921 0 p pr) 925 0 (τ.1 926 0) p) 926 0 (τ.1 926 0 + 1)).2.2.2 920 0 = up1 (τ.2.2.2 920 0) p (nI 1) := by
    show (wB (wI Y 944 0 (nI 0)) 920 0 p (nI 1)).2.2.2 920 0 = _
    rw [wB_3]
    show up1 (Y.2.2.2 920 0) _ _ = _
    rw [fr.2.2.2 920 (by decide)]
  obtain ⟨σ', h1, h2⟩ := oq_plan (D := D) (cI := cI) (cZ := cZ) (cO := cO) (t0 := t0) (mi := mi) hl9 hR (nI p) (nI pr) (by rw [e]; exact t944 (τ := Y))
  rw [e] at h1 h2
  refine ⟨σ', _, h1, h2, ?_⟩
  have rA : (h_pn p pr ρ).2.2.1 = ρ.2.2.1 := rfl
  have rB : ∀ F, F ≠ 905 → (h_pn p pr ρ).2.2.2 F = ρ.2.2.2 F := fun F z => by
    unfold h_pn
    rw [wB_o z, wB_o z, wB_o z, wB_o z]
  have r5 : ∀ i, (h_pn p pr ρ).2.2.2 905 0 i = if i = 10 then nI (τ.1 926 0 + 1) else if i = 8 + τ.1 926 0 then nI p else if i = 4 * p + 1 then nI pr else if i = 4 * p then nI 1 else ρ.2.2.2 905 0 i := fun i => by
    unfold h_pn
    rw [wB_3, wB_3, wB_3, wB_3, up1_app, up1_app, up1_app, up1_app, t10]
  clear h1 h2 e g gx hrun hw
  generalize h_pn p pr ρ = R at *
  generalize wN (wA (wA (wB (wI Y 944 0 (nI 0)) 920 0 p (nI 1)) 921 0 p pr) 925 0 (τ.1 926 0) p) 926 0 (τ.1 926 0 + 1) = T at *
  have hQ' : JQ R T := by
    refine ⟨by rw [r5, if_pos rfl, v26], by rw [v26]; omega, fun i hi => ?_, fun z => ?_, fun p' hp' => ?_⟩
    · rw [v26] at hi
      rw [v25, r5, if_neg (by omega), up1_app]
      by_cases z : i = τ.1 926 0
      · rw [if_pos (by omega), if_pos z]; exact ⟨rfl, hp⟩
      · rw [if_neg (by omega), if_neg z, if_neg (by omega), if_neg (by omega)]; exact qi i (by omega)
    · rw [v26] at z
      have z1 : τ.1 926 0 = 1 := by omega
      rw [v25, z1, up1_n (by decide), up1_s]
      exact hin 0 (by omega)
    · obtain ⟨b1, b2, b3, b4, b5, b6⟩ := qp p' hp'
      rw [v20, v21, f.2.2.1 922 (by decide), f.2.2.2 923 (by decide)]
      have w0 : R.2.2.2 905 0 (4 * p') = if p' = p then nI 1 else ρ.2.2.2 905 0 (4 * p') := by
        rw [r5, if_neg (by omega), if_neg (by omega), if_neg (by omega)]
        by_cases z : p' = p
        · rw [if_pos (by omega), if_pos z]
        · rw [if_neg (by omega), if_neg z]
      have w1 : R.2.2.2 905 0 (4 * p' + 1) = if p' = p then nI pr else ρ.2.2.2 905 0 (4 * p' + 1) := by
        rw [r5, if_neg (by omega), if_neg (by omega)]
        by_cases z : p' = p
        · rw [if_pos (by omega), if_pos z]
        · rw [if_neg (by omega), if_neg (by omega), if_neg z]
      have w2 : ∀ j, 2 ≤ j → j < 4 → R.2.2.2 905 0 (4 * p' + j) = ρ.2.2.2 905 0 (4 * p' + j) := fun j j1 j2 => by
        rw [r5, if_neg (by omega), if_neg (by omega), if_neg (by omega), if_neg (by omega)]
      rw [w0, w1, w2 2 (by decide) (by decide), w2 3 (by decide) (by decide)]
      by_cases z : p' = p
      · subst z
        rw [if_pos rfl, if_pos rfl, up1_s, up1_s]
        exact ⟨rfl, rfl, b3, b4, hpr, b6⟩
      · rw [if_neg z, if_neg z, up1_n z, up1_n z]
        exact ⟨b1, b2, b3, b4, b5, b6⟩
  refine ⟨by unfold JN; rw [rA]; exact hN, hP.fr f (rB 901 (by decide)), hA.fr f (fun p _ => by rw [rA]), hT.fr f (by rw [rB 902 (by decide)]), hM.fr f (fun i _ _ _ => by rw [rB 903 (by decide)]), hQ', hG.fr f (by rw [rB 903 (by decide)]; exact ⟨rfl, rfl⟩), hF.fr f (fun i _ _ => by rw [rB 903 (by decide)]), hW.fr f (fun i _ _ => by rw [rB 903 (by decide)]), fun p' hp' => ?_⟩
  rw [f.2.2.1 919 (by decide), v20, rA]
  refine ⟨(hC p' hp').1, ?_⟩
  by_cases z : p' = p
  · subst z; rw [up1_s]; exact Or.inr (Or.inl rfl)
  · rw [up1_n z]; exact (hC p' hp').2
end QCL
