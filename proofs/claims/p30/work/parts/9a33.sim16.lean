/-! helps for the walks -/
set_option maxHeartbeats 400000 in
theorem q_zero {K p : Nat} {ρ τ : St} (h : JJ K ρ τ) (hp : p < 2) (hc : ¬ 0 < ρ.2.2.2 905 0 (4 * p)) : ρ.2.2.2 905 0 (4 * p) = 0 := by
  have a := (h.2.2.2.2.2.1.2.2.2.2 p hp).1
  rcases (h.2.2.2.2.2.2.2.2.2 p hp).2 with b | b | b
  · exact a.trans b
  · rw [a, b] at hc; exact absurd (by decide) hc
  · rw [a, b] at hc; exact absurd (by decide) hc
set_option maxHeartbeats 400000 in
theorem one01 {P : Prop} [Decidable P] (c : 0 < (if P then 0 else 1 : Nat)) : (if P then 0 else 1 : Nat) = 1 := by
  split at c
  · exact absurd c (Nat.lt_irrefl _)
  · rename_i h; exact if_neg h
set_option maxHeartbeats 400000 in
theorem or_clw {C h : Nat} (hC : C < 17592186044416) : C ||| (h * 17592186044416) = clw C h := by
  rw [Nat.or_comm]
  refine (or_lo (k := 44) rfl hC).trans (Nat.add_comm _ _)
set_option maxHeartbeats 400000 in
theorem cntC_s (f : Nat → Nat) (n : Nat) : cntC f n + (if f n / 17592186044416 % 16 = 0 then 0 else 1) = cntC f (n + 1) := rfl
set_option maxHeartbeats 400000 in
theorem JJ.c62 {K p : Nat} {ρ τ : St} (h : JJ K ρ τ) (hp : p < 2) : ∀ i, ρ.2.2.1 900 p i < 2 ^ 62 := (h.2.2.1.2 p hp).1
set_option maxHeartbeats 400000 in
theorem JJ.c48 {K p : Nat} {ρ τ : St} (h : JJ K ρ τ) (hp : p < 2) {c : Nat} (hc : c < 48) (h0 : ρ.2.2.1 900 p c / 17592186044416 % 16 = 0) : ρ.2.2.1 900 p c < 17592186044416 := clw_4 ((h.2.2.1.2 p hp).2 c hc).1.1 h0
/-! a run on a copy, and the copy dropped -/
section XRs
variable {D : va_G} {cI cZ cO : ClassId} {t0 mi z0 x9 : Nat} {L : Lay} {κ σ : St} {H : Heap}
variable {p : Program} {l : Launch} {e : Env} {R : Room} {s : State} {m : MethodId} {args : Array Value} {below : List Frame} {meth : Method} {c : Code} {locs : List Loc} {cells slots : Nat} {Q : State → Prop}
variable {cc : ByteArray} {pc nL : Nat} {ls : Array Slot} {rest st0 : List Value} {own : String}
set_option maxHeartbeats 400000 in
theorem up2_v {a F k : Nat} (h : vdom F k) : L F k = up2 L 900 2 a F k := by
  symm
  refine up2_n (fun z => ?_)
  rcases h with ⟨h1, h2⟩ | ⟨h1, h2, h3⟩ <;> omega
set_option maxHeartbeats 400000 in
theorem x_run (X : CallFix p m c cc nL s args TB RL) (hK : KK D cI cZ cO s) {K q pr fr a : Nat} {τ : St} (hJ : JJ K σ τ) (hq : q < 2) (hpr : pr < 3) (hfr : fr < 100000) (hV : VX D cI cZ cO t0 z0 x9 κ (dA vdom 900 2) (up2 L 900 2 a) (cpj q 2 48 σ) (fun q => vim L q ∨ q = a) H) (hS : va_S (vA z0) s.heap H locs) {idx : Nat} (hl : Cond.methodLink RL idx yL_run ∈ TB) (hst : st0 = [.int (nI 0), .int (nI fr), .int (nI pr), .ref (L 904 0), .ref (L 903 0), .ref (L 902 0), .ref (L 901 0), .ref a] ++ rest) (hls : ls.size = nL) (hrm : (rest.map fun v => v.category).sum ≤ 8) (hR : 5 ≤ R.frames ∧ 145 ≤ R.locals) (hc : cells ≤ R.cells ∧ slots ≤ R.slots) (d : decode cc pc = .ok (.invokestatic idx, 3))
    (kk : ∀ (σ2 : St) (H1 : Heap) (locs1 : List Loc), σ2 = h_e9 (h_run 2 0 0 pr fr 0 (cpj q 2 48 σ)).2 σ → Vd D cI cZ cO t0 z0 x9 L κ σ2 H1 → va_S (vA z0) s.heap H1 locs1 → W p l e R s m args below meth c H1 locs1 cells slots Q (F0 m (pc + 3) ls (.int (h_run 2 0 0 pr fr 0 (cpj q 2 48 σ)).1 :: rest))) : W p l e R s m args below meth c H locs cells slots Q (F0 m pc ls st0) := by
  have q9 := cp_sim (fr := fr) hJ hq hpr
  have hrs : RS σ (cpj q 2 48 σ) := cpj_RS (by decide)
  have hg : GI (cpj q 2 48 σ) := hJ.2.1.1.eq hrs.2.2
  have hd : ∀ z ∈ ([(900, 2), (901, 0), (902, 0), (903, 0), (904, 0)] : List (Nat × Nat)), dA vdom 900 2 z.1 z.2 := by
    intro z hz
    simp only [List.mem_cons, List.not_mem_nil, or_false] at hz
    rcases hz with h9 | h9 | h9 | h9 | h9 <;> subst h9
    · exact Or.inr ⟨rfl, rfl⟩
    · exact Or.inl (vd_1 (by decide))
    · exact Or.inl (vd_1 (by decide))
    · exact Or.inl (vd_1 (by decide))
    · exact Or.inl (vd_1 (by decide))
  have hM := c_L_run (D := D) (cI := cI) (cZ := cZ) (cO := cO) l (up2 L 900 2 a) (cpj q 2 48 σ) (fun q => vim L q ∨ q = a) 2 0 0 pr fr 0 hd hpr hfr q9.1 hg
  have rs := q9.2.2.2.1
  generalize h_run 2 0 0 pr fr 0 (cpj q 2 48 σ) = Z at hM rs kk
  refine x_call X hK hV hS ysL_run hl [.ref a, .ref (L 901 0), .ref (L 902 0), .ref (L 903 0), .ref (L 904 0), .int (nI pr), .int (nI fr), .int (nI 0)] rest (fr := 4) (lo := 117) (r := Z.1) (ρ' := Z.2) ?_ hst hls rfl hrm hR hc d (fun H1 locs1 hV1 hS1 => kk _ H1 locs1 rfl (hV1.vd (fun F k z => Or.inl z) (fun F k z => up2_v z) (fun F k z => (rs.1 F k z).symm) (fun F k z => ?_)) hS1)
  · have e : (up2 L 900 2 a) 900 2 = a := up2_s
    rw [e] at hM
    exact hM
  · by_cases e4 : F = 904
    · have hk : k = 0 := by rcases z with ⟨h1, h2⟩ | ⟨h1, h2, h3⟩ <;> omega
      rw [e4, hk]
      exact (show up2 σ.2.2.2 904 0 (Z.2.2.2.2 904 0) 904 0 = _ from up2_s)
    · rw [rs.2.1 F k z e4]
      exact congrFun (xS9_o e4) k
end XRs
set_option maxHeartbeats 400000 in
theorem pn_e9 {p pr : Nat} {X ρ : St} : RS (h_pn p pr ρ) (h_pn p pr (h_e9 X ρ)) := by
  have e5 : (h_e9 X ρ).2.2.2 905 = ρ.2.2.2 905 := xS9_o (by decide)
  refine ⟨fun _ _ _ => rfl, fun F k z h4 => ?_, ?_⟩
  · unfold h_pn
    by_cases e : F = 905
    · have hk : k = 0 := by rcases z with ⟨h1, h2⟩ | ⟨h1, h2, h3⟩ <;> omega
      subst e hk
      rw [wB_3, wB_3, wB_3, wB_3, wB_3, wB_3, wB_3, wB_3, e5]
    · rw [wB_o e, wB_o e, wB_o e, wB_o e, wB_o e, wB_o e, wB_o e, wB_o e]
      exact congrFun (xS9_o h4) k
  · unfold h_pn
    rw [wB_o (by decide), wB_o (by decide), wB_o (by decide), wB_o (by decide), wB_o (by decide), wB_o (by decide), wB_o (by decide), wB_o (by decide)]
    exact xS9_o (by decide)
set_option maxHeartbeats 400000 in
theorem Q_plan2 {D : va_G} {cI cZ cO : ClassId} {t0 mi : Nat} {l : Launch} {K : Nat} {σ τ ρ ρ2 : St} (hl9 : l.stackTraces = false) (hR : Rl wr0 σ τ) (hJ : JJ K ρ τ) {p pr : Nat} (hp : p < 2) (hpr : pr < 3) (h0 : ρ.2.2.2 905 0 (4 * p) = 0) (hw : (h_run 2 0 0 pr 0 0 (cpj p 2 48 ρ)).1 = 0) (h2 : ρ2 = h_e9 (h_run 2 0 0 pr 0 0 (cpj p 2 48 ρ)).2 ρ) : ∃ σ' τ', (∀ (L : Lay) (ow : Nat → Prop), YI D cI cZ cO t0 mi l yX8_plan cX8_plan 4 (some FieldType.int) 14 480 6 50 [.ref (L 899 0), .int (nI p), .int (nI pr)] L σ ow 0 (nI (tn (ρ2.2.2.2 905 0 10) + 1)) σ') ∧ Rl wr0 σ' τ' ∧ JJ K (h_pn p pr ρ2) τ' := by
  obtain ⟨σ', τ', a, b, c⟩ := Q_plan (D := D) (cI := cI) (cZ := cZ) (cO := cO) (t0 := t0) (mi := mi) hl9 hR hJ hp hpr h0 hw
  have e5 : ρ2.2.2.2 905 = ρ.2.2.2 905 := by rw [h2]; exact xS9_o (by decide)
  rw [e5]
  refine ⟨σ', τ', a, b, ?_⟩
  rw [h2]
  exact c.rho pn_e9
set_option maxHeartbeats 400000 in
theorem q_le1 {K p : Nat} {σ ρ τ : St} (hR : Rl wr0 σ τ) (hJ : JJ K ρ τ) (hp : p < 2) (h0 : ρ.2.2.2 905 0 (4 * p) = 0) : τ.1 926 0 ≤ 1 ∧ ρ.2.2.2 905 0 10 = nI (τ.1 926 0) := by
  obtain ⟨hN, hP, hA, hT, hM, hQ, hG, hF, hW, hC⟩ := hJ
  obtain ⟨q10, q2, qi, qd, qp⟩ := hQ
  have e20 : τ.2.2.2 920 0 p = 0 := (qp p hp).1.symm.trans h0
  have gq := hR.2.2.2.2.2.2.2.2.2.2.2.2.1
  have gn := hR.2.2.2.2.2.2.1
  have hin : ∀ i, i < τ.1 926 0 → τ.2.2.1 925 0 i ≠ p := fun i hi z => by
    have a := (gq.1 i (by have := gn.2.2.1; omega)).2.2.1
    rw [z, e20] at a
    exact absurd a (by decide)
  refine ⟨?_, q10⟩
  by_cases z : τ.1 926 0 = 2
  · exfalso
    have a0 := (qi 0 (by omega)).2
    have a1 := (qi 1 (by omega)).2
    have b0 := hin 0 (by omega)
    have b1 := hin 1 (by omega)
    have := qd z
    omega
  · omega
set_option maxHeartbeats 400000 in
theorem cntC_le (f : Nat → Nat) : ∀ n, cntC f n ≤ n
  | 0 => Nat.le_refl 0
  | n + 1 => by
    show cntC f n + (if f n / 17592186044416 % 16 = 0 then 0 else 1) ≤ n + 1
    have := cntC_le f n
    split <;> omega
set_option maxHeartbeats 400000 in
theorem Q_judgeAnew2 {D : va_G} {cI cZ cO : ClassId} {t0 mi : Nat} {l : Launch} {K : Nat} {σ τ ρ : St} {y : Int32} (hl9 : l.stackTraces = false) (hR : Rl wr0 σ τ) {v : Int32} (hJ : JJ K ρ τ ∧ (0 < τ.1 934 0 ∧ τ.2.2.2 933 0 (18 * (τ.1 934 0 - 1) + 17) = nI 2 ∧ vdl (vdf (τ.1 934 0 - 1) τ) 2 = v)) (hy : ρ.2.2.2 903 0 28 = y) : ∃ σ' τ', (∀ (L : Lay) (ow : Nat → Prop), YI D cI cZ cO t0 mi l yX8_judgeAnew cX8_judgeAnew 2 (some FieldType.int) 7 142 1 6 [.ref (L 899 0), .int (y - nI 1)] L σ ow 0 v σ') ∧ Rl wr0 σ' τ' ∧ JJ K ρ τ' := by
  subst hy
  exact Q_judgeAnew hl9 hR hJ.1 hJ.2
set_option maxHeartbeats 400000 in
theorem hjd_28 (p : Nat) (v : Int32) (X : St) : (h_jd p v X).2.2.2 903 0 28 = X.2.2.2 903 0 28 + nI 1 := ((hjd_r p v X).1 28).trans (if_pos rfl)
