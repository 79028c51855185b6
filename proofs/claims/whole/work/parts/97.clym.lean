/-! night -/
theorem ab_c0 {fr : Nat} {c : Int32} {cl : Nat → Int32} : ∀ (T : List Sp) (n : Nat) (h : Nat → Int32) (cu : Nat → Nat), (ab cl fr c T n h cu).1 = 0 → c = 0
  | [], _, _, _, h => h
  | s :: T, n, h, cu, hz => by
    by_cases c1 : n < fr
    · rw [ab_p c1] at hz
      exact ab_c0 T (n + 1) h cu hz
    · by_cases c2 : bad cl h s
      · rw [ab_b c1 c2] at hz
        exact absurd (show nI 3 = 0 from hz) (by decide)
      · by_cases c3 : nI (s.1 2) < h (cel s)
        · rw [ab_c c1 c2 c3] at hz
          exact ab_c0 T (n + 1) _ _ hz
        · rw [ab_g c1 c2 c3] at hz
          exact ab_c0 T (n + 1) h cu hz
theorem ab_all {fr : Nat} {c : Int32} {cl : Nat → Int32} : ∀ (T : List Sp) (n : Nat) (h : Nat → Int32) (cu : Nat → Nat), fr = n + T.length → (ab cl fr c T n h cu).1 = c
  | [], _, _, _, _ => rfl
  | s :: T, n, h, cu, hz => by
    rw [List.length_cons] at hz
    rw [ab_p (by omega)]
    exact ab_all T (n + 1) h cu (by omega)
theorem bk_o {P F : Nat} {τ : St} (h : F ≠ 915) : ∀ n, (m_bk P n τ).2.2.2 F = τ.2.2.2 F
  | 0 => rfl
  | n + 1 => by
    show up3 (m_bk P n τ).2.2.2 915 0 (144 * P + n) ((m_bk P n τ).2.2.2 935 0 n) F = _
    unfold up3
    rw [if_neg h]
    exact bk_o h n
theorem bk_v {P : Nat} {τ : St} : ∀ (n i : Nat), (m_bk P n τ).2.2.2 915 0 i = if 144 * P ≤ i ∧ i < 144 * P + n then τ.2.2.2 935 0 (i - 144 * P) else τ.2.2.2 915 0 i
  | 0, i => by rw [if_neg (by omega)]; rfl
  | n + 1, i => by
    have e5 : (m_bk P n τ).2.2.2 935 = τ.2.2.2 935 := bk_o (by decide) n
    show (wB (m_bk P n τ) 915 0 (144 * P + n) ((m_bk P n τ).2.2.2 935 0 n)).2.2.2 915 0 i = _
    rw [wB_s, e5]
    by_cases e : i = 144 * P + n
    · have e9 : 144 * P + n - 144 * P = n := by omega
      rw [e, up1_s, if_pos (by omega), e9]
    · rw [up1_n e, bk_v n i]
      by_cases c : 144 * P ≤ i ∧ i < 144 * P + n
      · rw [if_pos c, if_pos (by omega)]
      · rw [if_neg c, if_neg (by omega)]
/-- the relation, put together again behind a run in truth -/
theorem rl_asm {σ τ K M D : St} {P m : Nat} (h : Rl wr0 σ τ) (hP : P < σ.1 1002 1) (hp : τ.2.2.2 920 0 P = nI 1) (hK : KR K) (hT : TI K) (hFI : FI P σ K) (hFX : FX P σ K) (hN : NR P K M) (y1 : ∀ F, F ≠ 943 → F ≠ 900 → F ≠ 901 → M.1 F = τ.1 F) (y3 : ∀ F, F < 908 ∨ (908 < F ∧ F < 936) → M.2.2.1 F = τ.2.2.1 F) (y4 : ∀ F, F ≠ 935 ∧ F ≠ 917 ∧ F ≠ 918 → M.2.2.2 F = τ.2.2.2 F) (hFY : FY P τ M) (h8 : K.1 208 P = m) (hm : m ≤ 6600) (hD : D = m_bk P 144 (wA M 922 0 P m)) (hS : SI D) (hw : wr0 (τ.2.2.2 902 0) (τ.2.2.1 903 0) (slc (D.2.2.2 915 0) P) (slc (τ.2.2.2 916 0) P) (τ.2.2.1 921 0 P) m) : Rl wr0 K D := by
  obtain ⟨a1, a2, a3, a4, a5, a6, a7, a8, a9, a10, a11, a12, a13, a14, a15, a16, a17⟩ := h
  have x1 : ∀ F, F < 602 ∨ (711 ≤ F ∧ F < 1000) → (F ≠ 504 ∧ F ≠ 811 ∧ F ≠ 812 ∧ F ≠ 208) → K.1 F = σ.1 F := fun F z y => funext fun k => hFI.1 F k (by omega) (by omega) (by omega) y.1 y.2.1 y.2.2.1 (fun w => y.2.2.2 w.1)
  have x8 : ∀ k, k ≠ P → K.1 208 k = σ.1 208 k := fun k z => hFI.1 208 k (by omega) (by omega) (by omega) (by decide) (by decide) (by decide) (fun w => z w.2)
  have x2 : ∀ F, F < 602 ∨ (711 ≤ F ∧ F < 1000) → K.2.1 F = σ.2.1 F := fun F z => funext fun k => hFI.2.1 F k (by omega) (by omega) (by omega)
  have xj : ∀ j, j ≠ 7 → K.1 1002 j = σ.1 1002 j := fun j z => hFI.1 1002 j (by omega) (by omega) (by omega) (by decide) (by decide) (by decide) (by omega)
  have xA : ∀ F, F < 601 ∨ (704 ≤ F ∧ F < 1000) → K.2.2.1 F = σ.2.2.1 F := fun F z => funext fun k => hFI.2.2.1 F k (by omega) (by omega) (by omega) (by omega)
  have xL : ∀ j, j ≠ 7 → K.2.2.1 1001 j = σ.2.2.1 1001 j := fun j z => hFI.2.2.1 1001 j (by omega) (by omega) (by omega) (by omega)
  have xB : ∀ F, F ≠ 600 ∧ F ≠ 807 ∧ ¬ (200 ≤ F ∧ F ≤ 203) → K.2.2.2 F = σ.2.2.2 F := fun F z => hFI.2.2.2 F z.1 z.2.1 z.2.2
  have D1 : D.1 = M.1 := by rw [hD]; exact m_bk_N P _ 144
  have D2 : D.2.2.1 = (wA M 922 0 P m).2.2.1 := by rw [hD]; exact m_bk_A P _ 144
  have D3 : ∀ F, F ≠ 922 → D.2.2.1 F 0 = M.2.2.1 F 0 := fun F z => by
    rw [D2]
    show up3 M.2.2.1 922 0 P m F 0 = _
    rw [up3_n (fun w => z w.1)]
  have D22 : D.2.2.1 922 0 = up1 (M.2.2.1 922 0) P m := by
    rw [D2]
    exact wA_s
  have D4 : ∀ F, F ≠ 915 → D.2.2.2 F 0 = M.2.2.2 F 0 := fun F z => by
    rw [hD, bk_o z 144]
    rfl
  have D5 : ∀ i, D.2.2.2 915 0 i = if 144 * P ≤ i ∧ i < 144 * P + 144 then M.2.2.2 935 0 (i - 144 * P) else M.2.2.2 915 0 i := fun i => by
    rw [hD, bk_v 144 i]
    rfl
  clear D2 hD
  have z1 : ∀ F, F ≠ 943 → F ≠ 900 → F ≠ 901 → D.1 F 0 = τ.1 F 0 := fun F a b c => by rw [D1, y1 F a b c]
  have z3 : ∀ F, F < 908 ∨ (908 < F ∧ F < 936) → F ≠ 922 → D.2.2.1 F 0 = τ.2.2.1 F 0 := fun F a b => by rw [D3 F b, y3 F a]
  have z4 : ∀ F, F ≠ 935 ∧ F ≠ 917 ∧ F ≠ 918 ∧ F ≠ 915 → D.2.2.2 F 0 = τ.2.2.2 F 0 := fun F a => by rw [D4 F a.2.2.2, y4 F ⟨a.1, a.2.1, a.2.2.1⟩]
  have D5o : ∀ k c, k ≠ P → c < 144 → D.2.2.2 915 0 (144 * k + c) = τ.2.2.2 915 0 (144 * k + c) := fun k c a b => by rw [D5, if_neg (by omega), y4 915 (by decide)]
  have D5i : ∀ c, c < 144 → D.2.2.2 915 0 (144 * P + c) = M.2.2.2 935 0 c := fun c b => by
    rw [D5, if_pos (by omega)]
    have : 144 * P + c - 144 * P = c := by omega
    rw [this]
  have D7o : ∀ k c, k ≠ P → c < 144 → D.2.2.2 917 0 (144 * k + c) = τ.2.2.2 917 0 (144 * k + c) := fun k c a b => by rw [D4 917 (by decide)]; exact (hFY.2 (144 * k + c) (by omega)).1
  have D8o : ∀ k c j, k ≠ P → c < 144 → j < 4 → D.2.2.2 918 0 (4 * (144 * k + c) + j) = τ.2.2.2 918 0 (4 * (144 * k + c) + j) := fun k c j a b d => by rw [D4 918 (by decide)]; exact (hFY.2 (144 * k + c) (by omega)).2 j d
  clear D5
  obtain ⟨n1, n2, n3, n4, n5, n6, n7, n8⟩ := hN
  have hSB : SB D := by
    obtain ⟨s1, s2, s3, s4, s5, s6, s7, s8, s9, s10, s11⟩ := a6
    refine ⟨hS, ?_, ?_, ?_, ?_, ?_, ?_, ?_, ?_, ?_, fun k hk => ?_⟩
    · rw [z3 903 (by omega) (by decide)]; exact s2
    · rw [z3 919 (by omega) (by decide)]; exact s3
    · rw [z3 931 (by omega) (by decide)]; exact s4
    · rw [z3 913 (by omega) (by decide), z1 934 (by decide) (by decide) (by decide)]; exact s5
    · rw [z3 925 (by omega) (by decide)]; exact s6
    · rw [z3 927 (by omega) (by decide), D1]; exact fun k => Nat.le_trans (s7 k) hFY.1
    · rw [z3 930 (by omega) (by decide)]; exact s8
    · rw [z3 930 (by omega) (by decide)]; exact s9
    · rw [D4 917 (by decide), D1]; exact n8
    · rw [z4 920 (by decide)] at hk
      rw [D22, y3 922 (by omega)]
      have e : k ≠ P := fun z => by
        rw [z, hp] at hk
        exact absurd hk (by decide)
      rw [up1_n e]
      exact s11 k hk
  have hGA : GA K D := by
    refine ⟨fun k hk => ?_, fun k hk => ?_⟩
    · rw [xj 1 (by decide)] at hk
      obtain ⟨b1, b2, b3, b4, b5⟩ := a12.1 k hk
      rw [x1 205 (by omega) (by omega), x2 206 (by omega), x2 209 (by omega), z3 919 (by omega) (by decide), z4 920 (by decide), z4 923 (by decide), D22, y3 922 (by omega)]
      by_cases e : k = P
      · subst e
        rw [up1_s]
        refine ⟨b1, b2, b3, h8, fun c hc => ?_⟩
        obtain ⟨c1, c2, c3, c4, c5⟩ := b5 c hc
        obtain ⟨d1, d2, d3, d4⟩ := n4 c hc
        rw [D5i c hc, xB 204 (by omega), z4 916 (by decide), D4 917 (by decide)]
        refine ⟨d1, c2, d2, ?_, ?_⟩
        · rw [d3]
          unfold mszT msz
          rw [D5i c hc, D4 917 (by decide), D4 918 (by decide)]
        · rw [d4]
          unfold mcau
          rw [D4 917 (by decide), D4 918 (by decide)]
      · rw [up1_n e]
        refine ⟨b1, b2, b3, by rw [x8 k e]; exact b4, fun c hc => ?_⟩
        obtain ⟨c1, c2, c3, c4, c5⟩ := b5 c hc
        rw [hFX 200 k (by omega) e, hFX 201 k (by omega) e, hFX 202 k (by omega) e, hFX 203 k (by omega) e, xB 204 (by omega), z4 916 (by decide), D5o k c e hc, D7o k c e hc]
        refine ⟨c1, c2, c3, ?_, ?_⟩
        · rw [c4]
          unfold msz
          rw [D5o k c e hc, D7o k c e hc, D8o k c 0 e hc (by decide), D8o k c 1 e hc (by decide), D8o k c 2 e hc (by decide), D8o k c 3 e hc (by decide)]
        · rw [c5]
          unfold mcau
          rw [D7o k c e hc, cau_cong (f := fun j => τ.2.2.2 918 0 (4 * (144 * k + c) + j)) 4 (fun j hj => (D8o k c j e hc hj).symm)]
    · rw [xj 1 (by decide)] at hk
      obtain ⟨b1, b2, b3, b4⟩ := a12.2 k hk
      rw [z3 919 (by omega) (by decide), z4 920 (by decide), z4 916 (by decide), D22, y3 922 (by omega), up1_n (by omega)]
      exact ⟨b1, b2, b3, b4⟩
  have hGQ : GQ K D := by
    refine ⟨fun i hi => ?_, fun i j hi hj => ?_⟩
    · rw [xj 2 (by decide)] at hi
      obtain ⟨b1, b2, b3, b4, b5, b6⟩ := a13.1 i hi
      rw [xL 2 (by decide), z3 925 (by omega) (by decide), xj 1 (by decide), z4 920 (by decide), x2 207 (by omega), z3 921 (by omega) (by decide), xj 6 (by decide)]
      refine ⟨b1, b2, b3, b4, b5, ?_⟩
      by_cases e : τ.2.2.1 925 0 i = P
      · rw [e, h8]; exact hm
      · rw [x8 _ e]; exact b6
    · rw [xj 2 (by decide)] at hi
      rw [z3 925 (by omega) (by decide)]
      exact a13.2 i j hi hj
  have hGW : GW wr0 D := fun i hi => by
    rw [z1 926 (by decide) (by decide) (by decide)] at hi
    rw [z4 902 (by decide), z3 903 (by omega) (by decide), z3 925 (by omega) (by decide), z4 916 (by decide), z3 921 (by omega) (by decide), D22, y3 922 (by omega)]
    by_cases e : τ.2.2.1 925 0 i = P
    · rw [e, up1_s]
      exact hw
    · rw [up1_n e]
      have : slc (D.2.2.2 915 0) (τ.2.2.1 925 0 i) = slc (τ.2.2.2 915 0) (τ.2.2.1 925 0 i) := funext fun c => by
        unfold slc
        exact D5o _ _ e (Nat.mod_lt _ (by decide))
      rw [this]
      exact a17 i hi
  exact ⟨hK, hT, ri_e a3 (fun j _ z => xj j z) (fun j _ z => xL j z), rc_e a4 (xj 0 (by decide)) (xj 1 (by decide)) (xj 2 (by decide)) (xj 3 (by decide)) (xj 4 (by decide)) (xj 5 (by decide)) (xj 6 (by decide)), rb_e a5 (x1 5 (by omega) (by omega)) (x1 205 (by omega) (by omega)) (x1 306 (by omega) (by omega)) (x1 506 (by omega) (by omega)) (xj 5 (by decide)) (xA 0 (by omega)) (xA 4 (by omega)), hSB,
    gn_e a7 (xj 0 (by decide)) (xj 1 (by decide)) (xj 2 (by decide)) (xj 4 (by decide)) (xj 5 (by decide)) (xj 6 (by decide)) (z1 914 (by decide) (by decide) (by decide)) (z1 924 (by decide) (by decide) (by decide)) (z1 926 (by decide) (by decide) (by decide)) (z1 932 (by decide) (by decide) (by decide)) (z1 934 (by decide) (by decide) (by decide)) (z1 904 (by decide) (by decide) (by decide)),
    gt_e n1 (rfl) (rfl) (rfl) (by rw [D1]) (by rw [D1]),
    gp_e a9 (xj 6 (by decide)) (x1 402 (by omega) (by omega)) (xB 400 (by omega)) (xB 401 (by omega)) (z3 903 (by omega) (by decide)) (z4 902 (by omega)),
    go_e n2 (rfl) (rfl) (rfl) (rfl) (rfl) (rfl) (rfl) (rfl) (rfl) (D3 907 (by decide)) (D3 908 (by decide)) (D3 913 (by decide)) (D4 906 (by decide)) (D4 910 (by decide)) (D4 911 (by decide)) (D4 912 (by decide)),
    gm_e n3 (rfl) (D4 905 (by decide)),
    hGA, hGQ,
    gg_e a14 (x2 100 (by omega)) (x2 101 (by omega)) (z4 928 (by omega)) (z4 929 (by omega)) (z3 927 (by omega) (by decide)),
    gd_e a15 (xj 4 (by decide)) (x1 5 (by omega) (by omega)) (xA 0 (by omega)) (xA 1 (by omega)) (xA 2 (by omega)) (xA 3 (by omega)) (xA 4 (by omega)) (z3 930 (by omega) (by decide)) (z3 931 (by omega) (by decide)),
    gr_e a16 (xj 5 (by decide)) (x1 306 (by omega) (by omega)) (x2 300 (by omega)) (x2 301 (by omega)) (x2 302 (by omega)) (x2 303 (by omega)) (xB 304 (by omega)) (xB 305 (by omega)) (z4 933 (by omega)), hGW⟩
/-- the first of the queue is cut, on both sides -/
theorem rl_ice {σ τ : St} (h : Rl wr0 σ τ) (hq : 0 < σ.1 1002 2) : Rl wr0 (k_ice (σ.2.2.1 1001 2 0) σ).2 (m_n1 τ).2 ∧ (((k_ice (σ.2.2.1 1001 2 0) σ).1 = nI 1 ∧ (m_n1 τ).1 = 0) ∨ ((k_ice (σ.2.2.1 1001 2 0) σ).1 = nI 0 ∧ (m_n1 τ).1 = (-1))) := by
  obtain ⟨q1, q2, q3, q4, q5, q6, q7⟩ := q_facts h hq
  have hQI := rl_qi h
  have hPI := rl_pi h
  have e2 : σ.1 1002 2 = τ.1 926 0 := h.2.2.2.2.2.2.1.2.2.1
  have hwr := (h.2.2.2.2.2.2.2.2.2.2.2.2.2.2.2.2 0 (by rw [← e2]; exact hq)).2
  have hw1 := wr_runs0 (h.2.2.2.2.2.2.2.2.2.2.2.2.2.2.2.2 0 (by rw [← e2]; exact hq))
  have hAll := n1_all h.2.2.2.2.2.1.1 hPI hQI (by omega)
  have hu : m_n1 τ = ((m_runs2 (τ.2.2.1 925 0 0) (τ.2.2.1 921 0 (τ.2.2.1 925 0 0)) (τ.2.2.1 922 0 (τ.2.2.1 925 0 0)) τ).1, m_bk (τ.2.2.1 925 0 0) 144 (wA (m_runs2 (τ.2.2.1 925 0 0) (τ.2.2.1 921 0 (τ.2.2.1 925 0 0)) (τ.2.2.1 922 0 (τ.2.2.1 925 0 0)) τ).2 922 0 (τ.2.2.1 925 0 0) ((m_runs2 (τ.2.2.1 925 0 0) (τ.2.2.1 921 0 (τ.2.2.1 925 0 0)) (τ.2.2.1 922 0 (τ.2.2.1 925 0 0)) τ).2.1 943 0))) := rfl
  have hne0 : ∀ i, 0 < i → i < σ.1 1002 2 → τ.2.2.1 925 0 i ≠ τ.2.2.1 925 0 0 := fun i h0 hi => h.2.2.2.2.2.2.2.2.2.2.2.2.1.2 i 0 hi h0
  have hp20 : τ.2.2.2 920 0 (τ.2.2.1 925 0 0) = nI 1 := (h.2.2.2.2.2.2.2.2.2.2.2.2.1.1 0 hq).2.2.1
  have hSI9 := hAll.1
  rw [hu] at hSI9 ⊢
  rw [q1]
  generalize hPe : τ.2.2.1 925 0 0 = P at *
  generalize hpe : τ.2.2.1 921 0 P = pr at *
  generalize hge : τ.2.2.1 922 0 P = g at *
  have h6 : σ.1 1002 6 ≤ 6 := h.2.2.2.1.2.2.2.2.2.2
  have h1 : σ.1 1002 1 ≤ 6 := h.2.2.2.1.2.1
  have hP6 : P < 6 := by omega
  have hlen := (TR_bd (B := τ.2.2.2 902 0) (S := τ.2.2.1 903 0) (pr := pr)).2
  have hv : ix (σ.2.1 207 P) (σ.1 1002 6) := by rw [q3]; exact (ix_nI (by omega)).mpr q4
  obtain ⟨i1, i2, i3, i4, i5⟩ := ice_inv (q := P) h.1 h.2.1 hv (by omega)
  have hG := gps_of h.2.2.2.2.2.2.2.2.1 h.2.2.1 h.2.2.2.1
  have hKT := TR_kt hG h.1 q4
  obtain ⟨b1, b2, b3, b4⟩ := beg_inv (v := nI pr) h.1.1 (by rw [← q3]; exact hv) h.1.2.1 h.1.2.2.1 h.1.2.2.2
  have hTK := beg_tk hG q4
  obtain ⟨x1, -, -, -⟩ := beg_x (v := nI pr) (X := σ)
  have hic : k_ice P σ = k_cl P g 6601 0 (k_beg (nI pr) σ) := by
    unfold k_ice
    rw [q3, q5]
  rw [hic] at i1 i2 i3 i4 i5 ⊢
  obtain ⟨d1, d2⟩ := runs_fd (stG_2 P g) (pl := P) (pr := pr) (τ := τ)
  rw [← rl2_G] at d1 d2
  have hb := (TR_bd (B := τ.2.2.2 902 0) (S := τ.2.2.1 903 0) (pr := pr)).1
  obtain ⟨f1, f2, f3, f4⟩ := FR_runs2 P pr g τ
  have hAA := h.2.2.2.2.2.2.2.2.2.2.2.1.1 P q2
  sorry
