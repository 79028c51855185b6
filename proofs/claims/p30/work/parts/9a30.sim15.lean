/-! building: a block more -/
def JX (K n : Nat) (ρ τ : St) : Prop := JN ρ ∧ (RG ρ τ ∧ τ.1 904 0 = n ∧ ∀ p, p < 3 → gs ρ p ≤ 12) ∧ JA ρ τ ∧ JT ρ τ ∧ JM K ρ τ ∧ JQ ρ τ ∧ JG ρ τ ∧ JF ρ τ ∧ JW ρ τ ∧ JC ρ τ
set_option maxHeartbeats 400000 in
theorem JJ.jx {K : Nat} {ρ τ : St} (h : JJ K ρ τ) : JX K 3 ρ τ := ⟨h.1, ⟨h.2.1.2.1, h.2.1.2.2, fun p hp => Nat.le_of_lt_succ (ix_lt (h.2.1.1 p hp).1)⟩, h.2.2⟩
set_option maxHeartbeats 400000 in
theorem JX.jj {K : Nat} {ρ τ : St} (h : JX K 3 ρ τ) (hg : GI ρ) : JJ K ρ τ := ⟨h.1, ⟨hg, h.2.1.1, h.2.1.2.1⟩, h.2.2⟩
def VB9 (D : va_G) (cI cZ cO : ClassId) (t0 z0 x9 : Nat) (L : Lay) (K n : Nat) (σ : St) (H : Heap) : Prop := ∃ κ τ, Vd D cI cZ cO t0 z0 x9 L κ σ H ∧ Rl wr0 κ τ ∧ JX K n σ τ
def h_bw (p k w c : Nat) (ρ : St) : St := wB (wB ρ 901 0 (12 * p + k) (nI (w + 8 * c))) 901 0 (36 + p) (nI (k + 1))
set_option maxHeartbeats 400000 in
theorem bw_r (p k w c : Nat) (ρ : St) : (∀ i, (h_bw p k w c ρ).2.2.2 901 0 i = if i = 36 + p then nI (k + 1) else if i = 12 * p + k then nI (w + 8 * c) else ρ.2.2.2 901 0 i) ∧ (∀ F, F ≠ 901 → (h_bw p k w c ρ).2.2.2 F = ρ.2.2.2 F) ∧ (h_bw p k w c ρ).2.2.1 = ρ.2.2.1 := by
  refine ⟨fun i => ?_, fun F z => ?_, rfl⟩
  · unfold h_bw
    rw [wB_3, wB_3, up1_app, up1_app]
  · unfold h_bw
    rw [wB_o z, wB_o z]
section QBL
variable {D : va_G} {cI cZ cO : ClassId} {t0 mi : Nat} {l : Launch} {K n : Nat} {σ τ ρ : St}
set_option maxHeartbeats 400000 in
theorem Q_block (hl9 : l.stackTraces = false) (hR : Rl wr0 σ τ) (hJ : JX K n ρ τ) {p k w c : Nat} (hp : p < n) (hn : n ≤ 3) (hk : k < 12) (hw : w < 8) (hc : c < 32) (h36 : ρ.2.2.2 901 0 (36 + p) = nI k) (h10 : ρ.2.2.2 905 0 10 = 0) (hB : isB (nI p) (nI w) (nI c - nI 16)) : ∃ σ' τ', (∀ (L : Lay) (ow : Nat → Prop), YI D cI cZ cO t0 mi l yX8_block cX8_block 5 (some FieldType.int) 7 142 2 12 [.ref (L 899 0), .int (nI p), .int (nI w), .int (nI c - nI 16)] L σ ow 0 (nI (k + 1)) σ') ∧ Rl wr0 σ' τ' ∧ JX K n (h_bw p k w c ρ) τ' := by
  obtain ⟨hN, ⟨hG9, h904, h12⟩, hA, hT, hM, hQ, hG, hF, hW, hC⟩ := hJ
  have gk : gs ρ p = k := by unfold gs; rw [h36, tn_nI (by omega)]
  have e3 : τ.2.2.1 903 0 p = k := (hG9 p (by omega)).1.trans gk
  have q0 : τ.1 926 0 = 0 := by
    have a := hQ.1
    rw [h10] at a
    have b := hQ.2.1
    exact ((nI_eq (a := τ.1 926 0) (b := 0) (by omega) (by omega)).mp a.symm)
  have hi : ix (nI p) (τ.1 904 0) := by rw [h904]; exact ixz hp (by omega)
  have g : ix (nI p) (τ.1 904 0) ∧ isB (nI p) (nI w) (nI c - nI 16) ∧ (ix (nI p) (τ.1 904 0) ∧ τ.2.2.1 903 0 (tn (nI p)) < 30 ∧ τ.1 926 0 = 0) := ⟨hi, hB, hi, by rw [tz (by omega : p < 1000), e3]; omega, q0⟩
  have e : m_block (nI p) (nI w) (nI c - nI 16) τ = (nI (k + 1), wA (wB (wB (wI τ 944 0 (nI 0)) 902 0 (60 * p + 2 * k) (nI w)) 902 0 (60 * p + 2 * k + 1) (nI c - nI 16)) 903 0 p (k + 1)) := by
    unfold m_block
    rw [mg_0 g, if_pos g, tz (by omega : p < 1000), e3]
  have f : FRm [] [944] [903] [902] τ (wA (wB (wB (wI τ 944 0 (nI 0)) 902 0 (60 * p + 2 * k) (nI w)) 902 0 (60 * p + 2 * k + 1) (nI c - nI 16)) 903 0 p (k + 1)) := FRm.A (FRm.B (FRm.B fr944 (by decide)) (by decide)) (by decide)
  have v2 : ∀ i, (wA (wB (wB (wI τ 944 0 (nI 0)) 902 0 (60 * p + 2 * k) (nI w)) 902 0 (60 * p + 2 * k + 1) (nI c - nI 16)) 903 0 p (k + 1)).2.2.2 902 0 i = if i = 60 * p + 2 * k + 1 then nI c - nI 16 else if i = 60 * p + 2 * k then nI w else τ.2.2.2 902 0 i := fun i => by
    show (wB (wB (wI τ 944 0 (nI 0)) 902 0 (60 * p + 2 * k) (nI w)) 902 0 (60 * p + 2 * k + 1) (nI c - nI 16)).2.2.2 902 0 i = _
    rw [wB_3, wB_3, up1_app, up1_app]
    rfl
  have v3 : (wA (wB (wB (wI τ 944 0 (nI 0)) 902 0 (60 * p + 2 * k) (nI w)) 902 0 (60 * p + 2 * k + 1) (nI c - nI 16)) 903 0 p (k + 1)).2.2.1 903 0 = up1 (τ.2.2.1 903 0) p (k + 1) := wA_3
  obtain ⟨σ', h1, h2⟩ := oq_block (D := D) (cI := cI) (cZ := cZ) (cO := cO) (t0 := t0) (mi := mi) hl9 hR (nI p) (nI w) (nI c - nI 16) (by rw [e]; exact t944 (τ := τ))
  rw [e] at h1 h2
  refine ⟨σ', _, h1, h2, ?_⟩
  obtain ⟨r1, r2, r3⟩ := bw_r p k w c ρ
  clear h1 h2 e g
  generalize wA (wB (wB (wI τ 944 0 (nI 0)) 902 0 (60 * p + 2 * k) (nI w)) 902 0 (60 * p + 2 * k + 1) (nI c - nI 16)) 903 0 p (k + 1) = T at *
  generalize h_bw p k w c ρ = R at *
  have s1 : ∀ q, q < 3 → gs R q = if q = p then k + 1 else gs ρ q := fun q hq => by
    unfold gs
    rw [r1]
    by_cases z : q = p
    · rw [if_pos (by omega), if_pos z, tn_nI (by omega)]
    · rw [if_neg (by omega), if_neg (by omega), if_neg z]
  have s2 : ∀ q j, q < 3 → j < 12 → gi R q j = if q = p ∧ j = k then w + 8 * c else gi ρ q j := fun q j hq hj => by
    unfold gi
    rw [r1, if_neg (by omega)]
    by_cases z : q = p ∧ j = k
    · rw [if_pos (by omega), if_pos z, tn_nI (by omega)]
    · rw [if_neg (by omega), if_neg z]
  have hRG : RG R T := fun q hq => by
    obtain ⟨a1, a2⟩ := hG9 q hq
    have b12 := h12 q hq
    rw [v3, up1_app, s1 q hq]
    by_cases z : q = p
    · subst z
      rw [if_pos rfl, if_pos rfl]
      refine ⟨rfl, fun j hj => ?_⟩
      have x0 : T.2.2.2 902 0 (60 * q + 2 * j) = if j = k then nI w else τ.2.2.2 902 0 (60 * q + 2 * j) := by
        rw [v2, if_neg (by omega)]
        by_cases y : j = k
        · rw [if_pos (by omega), if_pos y]
        · rw [if_neg (by omega), if_neg y]
      have x1 : T.2.2.2 902 0 (60 * q + 2 * j + 1) = if j = k then nI c - nI 16 else τ.2.2.2 902 0 (60 * q + 2 * j + 1) := by
        rw [v2]
        by_cases y : j = k
        · rw [if_pos (by omega), if_pos y]
        · rw [if_neg (by omega), if_neg (by omega), if_neg y]
      rw [s2 q j hq (by omega), x0, x1]
      by_cases y : j = k
      · have m1 : (w + 8 * c) % 8 = w := by omega
        have m2 : (w + 8 * c) / 8 = c := by omega
        rw [if_pos (show q = q ∧ j = k from ⟨rfl, y⟩), if_pos y, if_pos y, m1, m2]
        exact ⟨rfl, rfl⟩
      · rw [if_neg (show ¬ (q = q ∧ j = k) from fun u => y u.2), if_neg y, if_neg y]
        exact a2 j (by omega)
    · rw [if_neg z, if_neg z]
      refine ⟨a1, fun j hj => ?_⟩
      rw [s2 q j hq (by omega), if_neg (fun u => z u.1), v2, v2, if_neg (by omega), if_neg (by omega), if_neg (by omega), if_neg (by omega)]
      exact a2 j hj
  refine ⟨by unfold JN; rw [r3]; exact hN, ⟨hRG, by rw [f.1 904 (by decide)]; exact h904, fun q hq => ?_⟩, hA.fr f (fun p _ => by rw [r3]), hT.fr f (by rw [r2 902 (by decide)]), hM.fr f (fun i _ _ _ => by rw [r2 903 (by decide)]), hQ.fr f (by rw [r2 905 (by decide)]), hG.fr f (by rw [r2 903 (by decide)]; exact ⟨rfl, rfl⟩), hF.fr f (fun i _ _ => by rw [r2 903 (by decide)]), hW.fr f (fun i _ _ => by rw [r2 903 (by decide)]), hC.fr f (fun p _ => by rw [r3])⟩
  rw [s1 q hq]
  split
  · omega
  · exact h12 q hq
end QBL
set_option maxHeartbeats 400000 in
theorem JJ.mono {K K' : Nat} {ρ τ : St} (h : JJ K ρ τ) (hk : K ≤ K') : JJ K' ρ τ := ⟨h.1, h.2.1, h.2.2.1, h.2.2.2.1, ⟨h.2.2.2.2.1.1, h.2.2.2.2.1.2.1, h.2.2.2.2.1.2.2.1, Nat.le_trans h.2.2.2.2.1.2.2.2 (Nat.add_le_add_right hk _)⟩, h.2.2.2.2.2⟩
set_option maxHeartbeats 400000 in
theorem n01 {P : Prop} [Decidable P] : nI (if P then 0 else 1) = 0 ∨ nI (if P then 0 else 1) = 1 := by
  split
  · exact Or.inl rfl
  · exact Or.inr rfl
