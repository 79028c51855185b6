/-! night -/
theorem ab_c0 {fr : Nat} {c : Int32} {cl : Nat → Int32} : ∀ (T : List Sp) (n : Nat) (h : Nat → Int32) (cu : Nat → Nat), (ab cl fr c T n h cu).1 = 0 → c = 0
  | [], _, _, _, h => h
  | s :: T, n, h, cu, hz => by
    by_cases c1 : n < fr
    · rw [ab_p c1] at hz
      exact ab_c0 T (n + 1) h cu hz
    · by_cases c2 : bad cl h s
      · rw [ab_b c1 c2] at hz
        exact absurd (show nI 3 = 0 from hz) (by decide)
      · by_cases c3 : nI (s.1 2) < h (cel s)
        · rw [ab_c c1 c2 c3] at hz
          exact ab_c0 T (n + 1) _ _ hz
        · rw [ab_g c1 c2 c3] at hz
          exact ab_c0 T (n + 1) h cu hz
theorem ab_all {fr : Nat} {c : Int32} {cl : Nat → Int32} : ∀ (T : List Sp) (n : Nat) (h : Nat → Int32) (cu : Nat → Nat), fr = n + T.length → (ab cl fr c T n h cu).1 = c
  | [], _, _, _, _ => rfl
  | s :: T, n, h, cu, hz => by
    rw [List.length_cons] at hz
    rw [ab_p (by omega)]
    exact ab_all T (n + 1) h cu (by omega)
theorem bk_o {P F : Nat} {τ : St} (h : F ≠ 915) : ∀ n, (m_bk P n τ).2.2.2 F = τ.2.2.2 F
  | 0 => rfl
  | n + 1 => by
    show up3 (m_bk P n τ).2.2.2 915 0 (144 * P + n) ((m_bk P n τ).2.2.2 935 0 n) F = _
    unfold up3
    rw [if_neg h]
    exact bk_o h n
theorem bk_v {P : Nat} {τ : St} : ∀ (n i : Nat), (m_bk P n τ).2.2.2 915 0 i = if 144 * P ≤ i ∧ i < 144 * P + n then τ.2.2.2 935 0 (i - 144 * P) else τ.2.2.2 915 0 i
  | 0, i => by rw [if_neg (by omega)]; rfl
  | n + 1, i => by
    have e5 : (m_bk P n τ).2.2.2 935 = τ.2.2.2 935 := bk_o (by decide) n
    show (wB (m_bk P n τ) 915 0 (144 * P + n) ((m_bk P n τ).2.2.2 935 0 n)).2.2.2 915 0 i = _
    rw [wB_s, e5]
    by_cases e : i = 144 * P + n
    · have e9 : 144 * P + n - 144 * P = n := by omega
      rw [e, up1_s, if_pos (by omega), e9]
    · rw [up1_n e, bk_v n i]
      by_cases c : 144 * P ≤ i ∧ i < 144 * P + n
      · rw [if_pos c, if_pos (by omega)]
      · rw [if_neg c, if_neg (by omega)]
/-- the relation, put together again behind a run in truth -/
theorem rl_asm {σ τ K M D : St} {P m : Nat} (h : Rl wr0 σ τ) (hP : P < σ.1 1002 1) (hp : τ.2.2.2 920 0 P = nI 1) (hK : KR K) (hT : TI K) (hFI : FI P σ K) (hFX : FX P σ K) (hN : NR P K M) (y1 : ∀ F, F ≠ 943 → F ≠ 900 → F ≠ 901 → M.1 F = τ.1 F) (y3 : ∀ F, F < 908 ∨ (908 < F ∧ F < 936) → M.2.2.1 F = τ.2.2.1 F) (y4 : ∀ F, F ≠ 935 ∧ F ≠ 917 ∧ F ≠ 918 → M.2.2.2 F = τ.2.2.2 F) (hFY : FY P τ M) (h8 : K.1 208 P = m) (hm : m ≤ 6600) (hD : D = m_bk P 144 (wA M 922 0 P m)) (hS : SI D) (hw : wr0 (τ.2.2.2 902 0) (τ.2.2.1 903 0) (slc (D.2.2.2 915 0) P) (slc (τ.2.2.2 916 0) P) (τ.2.2.1 921 0 P) m) : Rl wr0 K D := by
  obtain ⟨a1, a2, a3, a4, a5, a6, a7, a8, a9, a10, a11, a12, a13, a14, a15, a16, a17⟩ := h
  have x1 : ∀ F, F < 602 ∨ (711 ≤ F ∧ F < 1000) → (F ≠ 504 ∧ F ≠ 811 ∧ F ≠ 812 ∧ F ≠ 208) → K.1 F = σ.1 F := fun F z y => funext fun k => hFI.1 F k (by omega) (by omega) (by omega) y.1 y.2.1 y.2.2.1 (fun w => y.2.2.2 w.1)
  have x8 : ∀ k, k ≠ P → K.1 208 k = σ.1 208 k := fun k z => hFI.1 208 k (by omega) (by omega) (by omega) (by decide) (by decide) (by decide) (fun w => z w.2)
  have x2 : ∀ F, F < 602 ∨ (711 ≤ F ∧ F < 1000) → K.2.1 F = σ.2.1 F := fun F z => funext fun k => hFI.2.1 F k (by omega) (by omega) (by omega)
  have xj : ∀ j, j ≠ 7 → K.1 1002 j = σ.1 1002 j := fun j z => hFI.1 1002 j (by omega) (by omega) (by omega) (by decide) (by decide) (by decide) (by omega)
  have xA : ∀ F, F < 601 ∨ (704 ≤ F ∧ F < 1000) → K.2.2.1 F = σ.2.2.1 F := fun F z => funext fun k => hFI.2.2.1 F k (by omega) (by omega) (by omega) (by omega)
  have xL : ∀ j, j ≠ 7 → K.2.2.1 1001 j = σ.2.2.1 1001 j := fun j z => hFI.2.2.1 1001 j (by omega) (by omega) (by omega) (by omega)
  have xB : ∀ F, F ≠ 600 ∧ F ≠ 807 ∧ ¬ (200 ≤ F ∧ F ≤ 203) → K.2.2.2 F = σ.2.2.2 F := fun F z => hFI.2.2.2 F z.1 z.2.1 z.2.2
  have D1 : D.1 = M.1 := by rw [hD]; exact m_bk_N P _ 144
  have D2 : D.2.2.1 = (wA M 922 0 P m).2.2.1 := by rw [hD]; exact m_bk_A P _ 144
  have D3 : ∀ F, F ≠ 922 → D.2.2.1 F 0 = M.2.2.1 F 0 := fun F z => by
    rw [D2]
    show up3 M.2.2.1 922 0 P m F 0 = _
    rw [up3_n (fun w => z w.1)]
  have D22 : D.2.2.1 922 0 = up1 (M.2.2.1 922 0) P m := by
    rw [D2]
    exact wA_s
  have D4 : ∀ F, F ≠ 915 → D.2.2.2 F 0 = M.2.2.2 F 0 := fun F z => by
    rw [hD, bk_o z 144]
    rfl
  have D5 : ∀ i, D.2.2.2 915 0 i = if 144 * P ≤ i ∧ i < 144 * P + 144 then M.2.2.2 935 0 (i - 144 * P) else M.2.2.2 915 0 i := fun i => by
    rw [hD, bk_v 144 i]
    rfl
  clear D2 hD
  have z1 : ∀ F, F ≠ 943 → F ≠ 900 → F ≠ 901 → D.1 F 0 = τ.1 F 0 := fun F a b c => by rw [D1, y1 F a b c]
  have z3 : ∀ F, F < 908 ∨ (908 < F ∧ F < 936) → F ≠ 922 → D.2.2.1 F 0 = τ.2.2.1 F 0 := fun F a b => by rw [D3 F b, y3 F a]
  have z4 : ∀ F, F ≠ 935 ∧ F ≠ 917 ∧ F ≠ 918 ∧ F ≠ 915 → D.2.2.2 F 0 = τ.2.2.2 F 0 := fun F a => by rw [D4 F a.2.2.2, y4 F ⟨a.1, a.2.1, a.2.2.1⟩]
  have D5o : ∀ k c, k ≠ P → c < 144 → D.2.2.2 915 0 (144 * k + c) = τ.2.2.2 915 0 (144 * k + c) := fun k c a b => by rw [D5, if_neg (by omega), y4 915 (by decide)]
  have D5i : ∀ c, c < 144 → D.2.2.2 915 0 (144 * P + c) = M.2.2.2 935 0 c := fun c b => by
    rw [D5, if_pos (by omega)]
    have : 144 * P + c - 144 * P = c := by omega
    rw [this]
  have D7o : ∀ k c, k ≠ P → c < 144 → D.2.2.2 917 0 (144 * k + c) = τ.2.2.2 917 0 (144 * k + c) := fun k c a b => by rw [D4 917 (by decide)]; exact (hFY.2 (144 * k + c) (by omega)).1
  have D8o : ∀ k c j, k ≠ P → c < 144 → j < 4 → D.2.2.2 918 0 (4 * (144 * k + c) + j) = τ.2.2.2 918 0 (4 * (144 * k + c) + j) := fun k c j a b d => by rw [D4 918 (by decide)]; exact (hFY.2 (144 * k + c) (by omega)).2 j d
  clear D5
  obtain ⟨n1, n2, n3, n4, n5, n6, n7, n8⟩ := hN
  have hSB : SB D := by
    obtain ⟨s1, s2, s3, s4, s5, s6, s7, s8, s9, s10, s11⟩ := a6
    refine ⟨hS, ?_, ?_, ?_, ?_, ?_, ?_, ?_, ?_, ?_, fun k hk => ?_⟩
    · rw [z3 903 (by omega) (by decide)]; exact s2
    · rw [z3 919 (by omega) (by decide)]; exact s3
    · rw [z3 931 (by omega) (by decide)]; exact s4
    · rw [z3 913 (by omega) (by decide), z1 934 (by decide) (by decide) (by decide)]; exact s5
    · rw [z3 925 (by omega) (by decide)]; exact s6
    · rw [z3 927 (by omega) (by decide), D1]; exact fun k => Nat.le_trans (s7 k) hFY.1
    · rw [z3 930 (by omega) (by decide)]; exact s8
    · rw [z3 930 (by omega) (by decide)]; exact s9
    · intro i hi
      rw [D4 917 (by decide), D1, y1 924 (by decide) (by decide) (by decide)]
      by_cases e : 144 * P ≤ i ∧ i < 144 * P + 144
      · have e9 : 144 * P + (i - 144 * P) = i := by omega
        have := n8 (i - 144 * P) (by omega)
        rw [e9] at this
        exact this.imp (fun z => z) Or.inl
      · rw [(hFY.2 i e).1, y1 914 (by decide) (by decide) (by decide)]
        exact s10 i hi
    · rw [z4 920 (by decide)] at hk
      rw [D22, y3 922 (by omega)]
      have e : k ≠ P := fun z => by
        rw [z, hp] at hk
        exact absurd hk (by decide)
      rw [up1_n e]
      exact s11 k hk
  have hGA : GA K D := by
    refine ⟨fun k hk => ?_, fun k hk => ?_⟩
    · rw [xj 1 (by decide)] at hk
      obtain ⟨b1, b2, b3, b4, b5⟩ := a12.1 k hk
      rw [x1 205 (by omega) (by omega), x2 206 (by omega), x2 209 (by omega), z3 919 (by omega) (by decide), z4 920 (by decide), z4 923 (by decide), D22, y3 922 (by omega)]
      by_cases e : k = P
      · subst e
        rw [up1_s]
        refine ⟨b1, b2, b3, h8, fun c hc => ?_⟩
        obtain ⟨c1, c2, c3, c4, c5⟩ := b5 c hc
        obtain ⟨d1, d2, d3, d4⟩ := n4 c hc
        rw [D5i c hc, xB 204 (by omega), z4 916 (by decide), D4 917 (by decide)]
        refine ⟨d1, c2, d2, ?_, ?_⟩
        · rw [d3]
          unfold mszT msz
          rw [D5i c hc, D4 917 (by decide), D4 918 (by decide)]
        · rw [d4]
          unfold mcau
          rw [D4 917 (by decide), D4 918 (by decide)]
      · rw [up1_n e]
        refine ⟨b1, b2, b3, by rw [x8 k e]; exact b4, fun c hc => ?_⟩
        obtain ⟨c1, c2, c3, c4, c5⟩ := b5 c hc
        rw [hFX 200 k (by omega) e, hFX 201 k (by omega) e, hFX 202 k (by omega) e, hFX 203 k (by omega) e, xB 204 (by omega), z4 916 (by decide), D5o k c e hc, D7o k c e hc]
        refine ⟨c1, c2, c3, ?_, ?_⟩
        · rw [c4]
          unfold msz
          rw [D5o k c e hc, D7o k c e hc, D8o k c 0 e hc (by decide), D8o k c 1 e hc (by decide), D8o k c 2 e hc (by decide), D8o k c 3 e hc (by decide)]
        · rw [c5]
          unfold mcau
          rw [D7o k c e hc, cau_cong (f := fun j => τ.2.2.2 918 0 (4 * (144 * k + c) + j)) 4 (fun j hj => (D8o k c j e hc hj).symm)]
    · rw [xj 1 (by decide)] at hk
      obtain ⟨b1, b2, b3, b4⟩ := a12.2 k hk
      rw [z3 919 (by omega) (by decide), z4 920 (by decide), z4 916 (by decide), D22, y3 922 (by omega), up1_n (by omega)]
      exact ⟨b1, b2, b3, b4⟩
  have hGQ : GQ K D := by
    refine ⟨fun i hi => ?_, fun i j hi hj => ?_⟩
    · rw [xj 2 (by decide)] at hi
      obtain ⟨b1, b2, b3, b4, b5, b6⟩ := a13.1 i hi
      rw [xL 2 (by decide), z3 925 (by omega) (by decide), xj 1 (by decide), z4 920 (by decide), x2 207 (by omega), z3 921 (by omega) (by decide), xj 6 (by decide)]
      refine ⟨b1, b2, b3, b4, b5, ?_⟩
      by_cases e : τ.2.2.1 925 0 i = P
      · rw [e, h8]; exact hm
      · rw [x8 _ e]; exact b6
    · rw [xj 2 (by decide)] at hi
      rw [z3 925 (by omega) (by decide)]
      exact a13.2 i j hi hj
  have hGW : GW wr0 D := fun i hi => by
    rw [z1 926 (by decide) (by decide) (by decide)] at hi
    rw [z4 902 (by decide), z3 903 (by omega) (by decide), z3 925 (by omega) (by decide), z4 916 (by decide), z3 921 (by omega) (by decide), D22, y3 922 (by omega)]
    by_cases e : τ.2.2.1 925 0 i = P
    · rw [e, up1_s]
      exact hw
    · rw [up1_n e]
      have : slc (D.2.2.2 915 0) (τ.2.2.1 925 0 i) = slc (τ.2.2.2 915 0) (τ.2.2.1 925 0 i) := funext fun c => by
        unfold slc
        exact D5o _ _ e (Nat.mod_lt _ (by decide))
      rw [this]
      exact a17 i hi
  exact ⟨hK, hT, ri_e a3 (fun j _ z => xj j z) (fun j _ z => xL j z), rc_e a4 (xj 0 (by decide)) (xj 1 (by decide)) (xj 2 (by decide)) (xj 3 (by decide)) (xj 4 (by decide)) (xj 5 (by decide)) (xj 6 (by decide)), rb_e a5 (x1 5 (by omega) (by omega)) (x1 205 (by omega) (by omega)) (x1 306 (by omega) (by omega)) (x1 506 (by omega) (by omega)) (xj 5 (by decide)) (xA 0 (by omega)) (xA 4 (by omega)), hSB,
    gn_e a7 (xj 0 (by decide)) (xj 1 (by decide)) (xj 2 (by decide)) (xj 4 (by decide)) (xj 5 (by decide)) (xj 6 (by decide)) (z1 914 (by decide) (by decide) (by decide)) (z1 924 (by decide) (by decide) (by decide)) (z1 926 (by decide) (by decide) (by decide)) (z1 932 (by decide) (by decide) (by decide)) (z1 934 (by decide) (by decide) (by decide)) (z1 904 (by decide) (by decide) (by decide)),
    gt_e n1 (rfl) (rfl) (rfl) (by rw [D1]) (by rw [D1]),
    gp_e a9 (xj 6 (by decide)) (x1 402 (by omega) (by omega)) (xB 400 (by omega)) (xB 401 (by omega)) (z3 903 (by omega) (by decide)) (z4 902 (by omega)),
    go_e n2 (rfl) (rfl) (rfl) (rfl) (rfl) (rfl) (rfl) (rfl) (rfl) (D3 907 (by decide)) (D3 908 (by decide)) (D3 913 (by decide)) (D4 906 (by decide)) (D4 910 (by decide)) (D4 911 (by decide)) (D4 912 (by decide)),
    gm_e n3 (rfl) (D4 905 (by decide)),
    hGA, hGQ,
    gg_e a14 (x2 100 (by omega)) (x2 101 (by omega)) (z4 928 (by omega)) (z4 929 (by omega)) (z3 927 (by omega) (by decide)),
    gd_e a15 (xj 4 (by decide)) (x1 5 (by omega) (by omega)) (xA 0 (by omega)) (xA 1 (by omega)) (xA 2 (by omega)) (xA 3 (by omega)) (xA 4 (by omega)) (z3 930 (by omega) (by decide)) (z3 931 (by omega) (by decide)),
    gr_e a16 (xj 5 (by decide)) (x1 306 (by omega) (by omega)) (x2 300 (by omega)) (x2 301 (by omega)) (x2 302 (by omega)) (x2 303 (by omega)) (xB 304 (by omega)) (xB 305 (by omega)) (z4 933 (by omega)), hGW⟩
theorem ini0_1 {pr F : Nat} {X : St} (h : F ≠ 943) : (m_ini0 pr X).1 F = X.1 F := by
  show up2 X.1 943 0 0 F = _
  unfold up2
  rw [if_neg h]
theorem ini_1 {P pr F : Nat} {τ : St} (h : F ≠ 943) : (m_ini P pr τ).1 F = τ.1 F := (ini0_1 (pr := pr) (X := m_cp P 144 τ) h).trans (by rw [m_cp_N])
theorem ini0_3 {pr F : Nat} {X : St} (h : F = 907 ∨ F = 908 ∨ F = 913) : (m_ini0 pr X).2.2.1 F = X.2.2.1 F := by
  rcases h with rfl | rfl | rfl <;> rfl
theorem ini_3 {P pr F : Nat} {τ : St} (h : F = 907 ∨ F = 908 ∨ F = 913) : (m_ini P pr τ).2.2.1 F = τ.2.2.1 F := (ini0_3 (pr := pr) (X := m_cp P 144 τ) h).trans (by rw [m_cp_A])
theorem ini_4 {P pr F : Nat} {τ : St} (h : F ≠ 935) : (m_ini P pr τ).2.2.2 F = τ.2.2.2 F := by
  unfold m_ini
  rw [ini0_B, m_cp_F P F τ h]
theorem ini_5 {P pr i : Nat} {τ : St} (h : i < 144) : (m_ini P pr τ).2.2.2 935 0 i = τ.2.2.2 915 0 (144 * P + i) := by
  unfold m_ini
  rw [ini0_B, m_cp_V P τ 144 i h]
theorem nr_ini {wr : WrT} {σ σb τ : St} {P pr : Nat} (h : Rl wr σ τ) (hP : P < σ.1 1002 1) (hF : FB σ σb) (hB : σb.2.2.2 = σ.2.2.2) : NR P σb (m_ini P pr τ) := by
  obtain ⟨a1, a2, a3, a4, a5, a6, a7, a8, a9, a10, a11, a12, a13, a14, a15, a16, a17⟩ := h
  have x1 : ∀ F, F < 602 → σb.1 F = σ.1 F ∧ σb.2.1 F = σ.2.1 F := fun F z => ⟨funext fun k => (hF.1 F k (by omega) (by omega) (by omega)).1, funext fun k => (hF.1 F k (by omega) (by omega) (by omega)).2⟩
  have e0 : σb.1 1002 0 = σ.1 1002 0 := (hF.1 1002 0 (by omega) (by omega) (by omega)).1
  have eL : σb.2.2.1 1001 0 = σ.2.2.1 1001 0 := hF.2.1 1001 0 (by decide) (by decide) (by decide) (by omega)
  refine ⟨gt_e a8 (hF.1 811 0 (by omega) (by omega) (by omega)).1 (hF.1 812 0 (by omega) (by omega) (by omega)).1 (x1 504 (by omega)).1 (congrFun (ini_1 (by decide)) 0) (congrFun (ini_1 (by decide)) 0), go_e a10 e0 (x1 502 (by omega)).1 (x1 504 (by omega)).1 (x1 506 (by omega)).1 (x1 500 (by omega)).2 (x1 501 (by omega)).2 (x1 505 (by omega)).2 (x1 507 (by omega)).2 (by rw [hB]) (congrFun (ini_3 (by omega)) 0) (congrFun (ini_3 (by omega)) 0) (congrFun (ini_3 (by omega)) 0) (congrFun (ini_4 (by decide)) 0) (congrFun (ini_4 (by decide)) 0) (congrFun (ini_4 (by decide)) 0) (congrFun (ini_4 (by decide)) 0), gm_e a11 (by rw [hB]) (congrFun (ini_4 (by decide)) 0), fun c hc => ?_, ?_, ?_, ?_, ?_⟩
  · obtain ⟨c1, c2, c3, c4, c5⟩ := (a12.1 P hP).2.2.2.2 c hc
    rw [hB, ini_5 hc, ini_4 (F := 917) (by decide)]
    refine ⟨c1, c3, ?_, ?_⟩
    · rw [c4]
      unfold msz mszT
      rw [ini_5 hc, ini_4 (F := 917) (by decide), ini_4 (F := 918) (by decide)]
    · rw [c5]
      unfold mcau
      rw [ini_4 (F := 917) (by decide), ini_4 (F := 918) (by decide)]
  · rw [e0, eL]
    exact a3 0 (by decide) (by decide) (by decide)
  · rw [e0, ini_1 (F := 914) (by decide)]
    exact a7.1
  · rw [e0]
    exact a4.1
  · intro c hc
    rw [ini_4 (F := 917) (by decide), ini_1 (F := 914) (by decide)]
    have e1 : σ.1 1002 1 = τ.1 924 0 := a7.2.1
    have h6 : σ.1 1002 1 ≤ 6 := a4.2.1
    rcases a6.2.2.2.2.2.2.2.2.2.1 (144 * P + c) (by omega) with z | z | z
    · exact Or.inl z
    · exact Or.inr z
    · omega
/-- the first of the queue is cut, on both sides -/
theorem rl_ice {σ τ : St} (h : Rl wr0 σ τ) (hq : 0 < σ.1 1002 2) : Rl wr0 (k_ice (σ.2.2.1 1001 2 0) σ).2 (m_n1 τ).2 ∧ (((k_ice (σ.2.2.1 1001 2 0) σ).1 = nI 1 ∧ (m_n1 τ).1 = 0) ∨ ((k_ice (σ.2.2.1 1001 2 0) σ).1 = nI 0 ∧ (m_n1 τ).1 = (-1))) := by
  obtain ⟨q1, q2, q3, q4, q5, q6, q7⟩ := q_facts h hq
  have hQI := rl_qi h
  have hPI := rl_pi h
  have e2 : σ.1 1002 2 = τ.1 926 0 := h.2.2.2.2.2.2.1.2.2.1
  have hwr := (h.2.2.2.2.2.2.2.2.2.2.2.2.2.2.2.2 0 (by rw [← e2]; exact hq)).2
  have hw1 := wr_runs0 (h.2.2.2.2.2.2.2.2.2.2.2.2.2.2.2.2 0 (by rw [← e2]; exact hq))
  have hAll := n1_all h.2.2.2.2.2.1.1 hPI hQI (by omega)
  have hu : m_n1 τ = ((m_runs2 (τ.2.2.1 925 0 0) (τ.2.2.1 921 0 (τ.2.2.1 925 0 0)) (τ.2.2.1 922 0 (τ.2.2.1 925 0 0)) τ).1, m_bk (τ.2.2.1 925 0 0) 144 (wA (m_runs2 (τ.2.2.1 925 0 0) (τ.2.2.1 921 0 (τ.2.2.1 925 0 0)) (τ.2.2.1 922 0 (τ.2.2.1 925 0 0)) τ).2 922 0 (τ.2.2.1 925 0 0) ((m_runs2 (τ.2.2.1 925 0 0) (τ.2.2.1 921 0 (τ.2.2.1 925 0 0)) (τ.2.2.1 922 0 (τ.2.2.1 925 0 0)) τ).2.1 943 0))) := rfl
  have hne0 : ∀ i, 0 < i → i < σ.1 1002 2 → τ.2.2.1 925 0 i ≠ τ.2.2.1 925 0 0 := fun i h0 hi => h.2.2.2.2.2.2.2.2.2.2.2.2.1.2 i 0 hi h0
  have hp20 : τ.2.2.2 920 0 (τ.2.2.1 925 0 0) = nI 1 := (h.2.2.2.2.2.2.2.2.2.2.2.2.1.1 0 hq).2.2.1
  have hSI9 := hAll.1
  rw [hu] at hSI9 ⊢
  rw [q1]
  generalize hPe : τ.2.2.1 925 0 0 = P at *
  generalize hpe : τ.2.2.1 921 0 P = pr at *
  generalize hge : τ.2.2.1 922 0 P = g at *
  have h6 : σ.1 1002 6 ≤ 6 := h.2.2.2.1.2.2.2.2.2.2
  have h1 : σ.1 1002 1 ≤ 6 := h.2.2.2.1.2.1
  have hP6 : P < 6 := by omega
  have hlen := (TR_bd (B := τ.2.2.2 902 0) (S := τ.2.2.1 903 0) (pr := pr)).2
  have hv : ix (σ.2.1 207 P) (σ.1 1002 6) := by rw [q3]; exact (ix_nI (by omega)).mpr q4
  obtain ⟨i1, i2, i3, i4, i5⟩ := ice_inv (q := P) h.1 h.2.1 hv (by omega)
  have hG := gps_of h.2.2.2.2.2.2.2.2.1 h.2.2.1 h.2.2.2.1
  have hKT := TR_kt hG h.1 q4
  obtain ⟨b1, b2, b3, b4⟩ := beg_inv (v := nI pr) h.1.1 (by rw [← q3]; exact hv) h.1.2.1 h.1.2.2.1 h.1.2.2.2
  have hTK := beg_tk hG q4
  obtain ⟨x1, -, -, -⟩ := beg_x (v := nI pr) (X := σ)
  have hic : k_ice P σ = k_cl P g 6601 0 (k_beg (nI pr) σ) := by
    unfold k_ice
    rw [q3, q5]
  rw [hic] at i1 i2 i3 i4 i5 ⊢
  obtain ⟨d1, d2⟩ := runs_fd (stG_2 P g) (pl := P) (pr := pr) (τ := τ)
  rw [← rl2_G] at d1 d2
  have hb := (TR_bd (B := τ.2.2.2 902 0) (S := τ.2.2.1 903 0) (pr := pr)).1
  obtain ⟨f1, f2, f3, f4⟩ := FR_runs2 P pr g τ
  have hNR := nr_ini (pr := pr) h q2 b4 x1
  have hb208 : (k_beg (nI pr) σ).1 208 P = max 0 g := by rw [(b4.1 208 P (by omega) (by omega) (by omega)).1, q5]; omega
  have hab : (ab (slc (τ.2.2.2 916 0) P) g (TR (τ.2.2.2 902 0) (τ.2.2.1 903 0) pr).2 (TR (τ.2.2.2 902 0) (τ.2.2.1 903 0) pr).1 0 ((m_ini P pr τ).2.2.2 935 0) (fun _ => 0)).1 = 0 := (ab_cong (fun _ _ => rfl) _ 0 _ (slc (τ.2.2.2 915 0) P) _ hb (fun i hi => by rw [ini_5 hi, slc_lt hi])).1.trans hwr
  have hc0 := ab_c0 _ _ _ _ hwr
  have main := cl_fd (B := τ.2.2.2 902 0) (S := τ.2.2.1 903 0) (c := (TR (τ.2.2.2 902 0) (τ.2.2.1 903 0) pr).2) (cl := slc (τ.2.2.2 916 0) P) (gb := g) hP6 (TR (τ.2.2.2 902 0) (τ.2.2.1 903 0) pr).1 6601 0 (k_beg (nI pr) σ) (m_ini P pr τ) hTK (by omega) hb hKT b1 b2 b3 (ti_fb h.2.1 b4) hNR (ini_943 P pr τ) hb208 (fun i hi => by rw [ini_4 (F := 916) (by decide)]; exact (slc_lt hi).symm) hab
  have hr : m_runs2 P pr g τ = m_rl2 P g 2000 1 0 (m_ini P pr τ) := rfl
  rw [← hr] at d1 d2
  clear hr
  have hg7 : g ≤ (TR (τ.2.2.2 902 0) (τ.2.2.1 903 0) pr).1.length := q7
  have hwT : ∀ (st : Nat → Int32) (m : Nat), m ≤ (TR (τ.2.2.2 902 0) (τ.2.2.1 903 0) pr).1.length → (ab (slc (τ.2.2.2 916 0) P) m (TR (τ.2.2.2 902 0) (τ.2.2.1 903 0) pr).2 (TR (τ.2.2.2 902 0) (τ.2.2.1 903 0) pr).1 0 st (fun _ => 0)).1 = 0 → wr0 (τ.2.2.2 902 0) (τ.2.2.1 903 0) st (slc (τ.2.2.2 916 0) P) pr m := fun st m u v => ⟨u, v⟩
  generalize TR (τ.2.2.2 902 0) (τ.2.2.1 903 0) pr = R at *
  have hFX : FX P σ (k_cl P g 6601 0 (k_beg (nI pr) σ)).2 := fun F k u v => by rw [main.2.2.1 F k u v, x1]
  generalize k_cl P g 6601 0 (k_beg (nI pr) σ) = K at *
  have hFY0 := main.2.2.2.1
  obtain ⟨r1, r2, -, -, r5, r6⟩ := main
  generalize fdG (m_step2 P g) R.2 R.1 (m_ini P pr τ) = D0 at *
  generalize m_runs2 P pr g τ = W at *
  have hNM : NR P K.2 W.2 := nr_V r1 (by rw [d2.1]) (by rw [d2.1]) (by rw [d2.1]) d2.2.2.2 (by rw [d2.2.2.1 907 (by decide) (by decide) (by decide)]) (by rw [d2.2.2.1 908 (by decide) (by decide) (by decide)]) (by rw [d2.2.2.1 913 (by decide) (by decide) (by decide)])
  have hFY : FY P τ W.2 := by
    refine ⟨?_, fun i hi => ?_⟩
    · rw [d2.1]
      have := hFY0.1
      rw [ini_1 (F := 900) (by decide)] at this
      exact this
    · rw [d2.2.2.2]
      have := hFY0.2 i hi
      rw [ini_4 (F := 917) (by decide), ini_4 (F := 918) (by decide)] at this
      exact this
  have e943 : W.2.1 943 0 = D0.2.1 943 0 := by rw [d2.1]
  have e935 : W.2.2.2.2 935 0 = D0.2.2.2.2 935 0 := by rw [d2.2.2.2]
  have hgm : g ≤ W.2.1 943 0 ∧ W.2.1 943 0 ≤ R.1.length := by
    rw [e943]
    rcases r6 with ⟨-, -, z⟩ | ⟨-, -, z1, z2, -⟩ <;> omega
  refine ⟨rl_asm (M := W.2) (P := P) (m := W.2.1 943 0) h q2 hp20 i1 i2 i4 hFX hNM (fun F a b c => f1 F (by simp [a, b, c])) (fun F z => f3 F ?_) (fun F z => f4 F (by simp [z.1, z.2.1, z.2.2])) hFY (by rw [r2, ← e943]; omega) (by omega) rfl hSI9 ?_, ?_⟩
  · intro y
    simp only [List.mem_cons, List.not_mem_nil, or_false] at y
    omega
  · rw [hpe]
    refine hwT _ _ hgm.2 ?_
    rcases r6 with ⟨-, -, z⟩ | ⟨-, -, z1, z2, z3⟩
    · rw [ab_all R.1 0 _ _ (by rw [e943]; exact z)]
      exact hc0
    · rw [e943]
      refine (ab_cong (fun _ _ => rfl) R.1 0 _ (D0.2.2.2.2 935 0) _ hb (fun i hi => ?_)).1.trans z3
      rw [slc_lt hi, bk_v 144, if_pos (by omega)]
      have e9 : 144 * P + i - 144 * P = i := by omega
      rw [e9]
      exact congrFun e935 i
  · rw [d1]
    rcases r6 with ⟨z1, z2, -⟩ | ⟨z1, z2, -⟩
    · exact Or.inl ⟨z1, z2⟩
    · exact Or.inr ⟨z1, z2⟩
/-- the first is done: the queue moves up -/
theorem rl_nx {σ τ : St} (h : Rl wr0 σ τ) (hq : 0 < σ.1 1002 2) : Rl wr0 (k_nx σ) (m_n2 (τ.2.2.1 925 0 0) (τ.1 926 0) τ) ∧ (k_nx σ).1 1002 2 = σ.1 1002 2 - 1 := by
  obtain ⟨q1, q2, -, -, -, -, -⟩ := q_facts h hq
  obtain ⟨c1, c2, c3, c4, c5⟩ := nx_inv h.1 h.2.1 (rl_qp h)
  obtain ⟨a1, a2, a3, ⟨n0, n1, n2, n3, n4, n5, n6⟩, a5, ⟨s1, s2, s3, s4, s5, s6, s7, s8, s9, s10, s11⟩, ⟨g0, g1, g2, g4, g5, g6⟩, a8, a9, a10, a11, a12, a13, a14, a15, a16, a17⟩ := h
  have hne : ∀ i, 0 < i → i < σ.1 1002 2 → τ.2.2.1 925 0 i ≠ τ.2.2.1 925 0 0 := fun i h0 hi => a13.2 i 0 hi h0
  unfold k_nx at c1 c2 ⊢
  unfold m_n2
  rw [q1] at c1 c2 ⊢
  generalize hP : τ.2.2.1 925 0 0 = P at *
  have eN : (lrem 2 0 (wI σ 206 P (nI 2))).1 1002 2 = σ.1 1002 2 - 1 := lrem_N 2 0 (wI σ 206 P (nI 2))
  have eA : ∀ i, (lrem 2 0 (wI σ 206 P (nI 2))).2.2.1 1001 2 i = σ.2.2.1 1001 2 (i + 1) := fun i => by
    rw [lrem_A]
    exact if_neg (Nat.not_lt_zero _)
  have e6 : ∀ k, (lrem 2 0 (wI σ 206 P (nI 2))).2.1 206 k = up1 (σ.2.1 206) P (nI 2) k := fun k => by
    show up2 σ.2.1 206 P (nI 2) 206 k = _
    unfold up2
    rw [if_pos rfl]
  have f := m_shf_fr (wN (wB τ 920 0 P (nI 2)) 926 0 (τ.1 926 0 - 1)) (lN := []) (lI := []) (lA := [925]) (lB := []) (by simp) (τ.1 926 0 - 1)
  have fq := m_shf_q (wN (wB τ 920 0 P (nI 2)) 926 0 (τ.1 926 0 - 1)) (τ.1 926 0 - 1)
  generalize m_shf (τ.1 926 0 - 1) (wN (wB τ 920 0 P (nI 2)) 926 0 (τ.1 926 0 - 1)) = τ' at f fq ⊢
  have t1 : ∀ F, F ≠ 926 → τ'.1 F = τ.1 F := fun F z => by
    rw [f.1 F (by simp)]
    show up2 τ.1 926 0 (τ.1 926 0 - 1) F = _
    unfold up2
    rw [if_neg z]
  have t26 : τ'.1 926 0 = τ.1 926 0 - 1 := by
    rw [f.1 926 (by simp)]
    exact wN_sv
  have t2 : τ'.2.1 = τ.2.1 := funext fun F => f.2.1 F (by simp)
  have t3 : ∀ F, F ≠ 925 → τ'.2.2.1 F = τ.2.2.1 F := fun F z => f.2.2.1 F (by simpa using z)
  have t25 : ∀ k, τ'.2.2.1 925 0 k = if k < τ.1 926 0 - 1 then τ.2.2.1 925 0 (k + 1) else τ.2.2.1 925 0 k := fq
  have t4 : ∀ F, F ≠ 920 → τ'.2.2.2 F = τ.2.2.2 F := fun F z => by
    rw [f.2.2.2 F (by simp)]
    show up3 τ.2.2.2 920 0 P (nI 2) F = _
    unfold up3
    rw [if_neg z]
  have t20 : ∀ k, τ'.2.2.2 920 0 k = up1 (τ.2.2.2 920 0) P (nI 2) k := fun k => by
    rw [f.2.2.2 920 (by simp)]
    show up3 τ.2.2.2 920 0 P (nI 2) 920 0 k = _
    rw [up3_s]
  clear f fq
  have hS : SB τ' := by
    refine ⟨?_, ?_, ?_, ?_, ?_, fun k => ?_, ?_, ?_, ?_, ?_, fun k hk => ?_⟩
    · exact SI_w s1 (by rw [t3 937 (by decide)]) (by rw [t2]) (by rw [t1 914 (by decide)]) (by rw [t3 907 (by decide)]) (by rw [t3 908 (by decide)]; exact s1.2.2.2.2.2.2.1) (by rw [t3 909 (by decide)]; exact s1.2.2.2.2.2.2.2.1) (by rw [t1 901 (by decide)]; exact s1.2.2.2.2.2.2.2.2)
    · rw [t3 903 (by decide)]; exact s2
    · rw [t3 919 (by decide)]; exact s3
    · rw [t3 931 (by decide)]; exact s4
    · rw [t3 913 (by decide), t1 934 (by decide)]; exact s5
    · rw [t25]
      split
      · exact s6 _
      · exact s6 _
    · rw [t3 927 (by decide), t1 900 (by decide)]; exact s7
    · rw [t3 930 (by decide)]; exact s8
    · rw [t3 930 (by decide)]; exact s9
    · rw [t4 917 (by decide), t1 914 (by decide), t1 924 (by decide)]; exact s10
    · rw [t20] at hk
      rw [t3 922 (by decide)]
      by_cases e : k = P
      · rw [e, up1_s] at hk
        exact absurd hk (by decide)
      · rw [up1_n e] at hk
        exact s11 k hk
  have hA : GA (lrem 2 0 (wI σ 206 P (nI 2))) τ' := by
    refine ⟨fun k hk => ?_, fun k hk => ?_⟩
    · have hk : k < σ.1 1002 1 := hk
      obtain ⟨d1, d2, d3, d4, d5⟩ := a12.1 k hk
      unfold msz mcau at d5 ⊢
      rw [t3 919 (by decide), t4 923 (by decide), t3 922 (by decide), t4 915 (by decide), t4 916 (by decide), t4 917 (by decide), t4 918 (by decide), e6, t20]
      refine ⟨d1, ?_, d3, d4, d5⟩
      by_cases e : k = P
      · rw [e, up1_s, up1_s]
      · rw [up1_n e, up1_n e]; exact d2
    · have hk : σ.1 1002 1 ≤ k := hk
      obtain ⟨d1, d2, d3, d4⟩ := a12.2 k hk
      rw [t3 919 (by decide), t3 922 (by decide), t4 916 (by decide), t20, up1_n (by omega)]
      exact ⟨d1, d2, d3, d4⟩
  have hQ : GQ (lrem 2 0 (wI σ 206 P (nI 2))) τ' := by
    refine ⟨fun i hi => ?_, fun i j hi hj => ?_⟩
    · rw [eN] at hi
      obtain ⟨b1, b2, b3, b4, b5, b6⟩ := a13.1 (i + 1) (by omega)
      rw [eA, t25, if_pos (by omega), t20, up1_n (hne (i + 1) (by omega) (by omega)), t3 921 (by decide)]
      exact ⟨b1, b2, b3, b4, b5, b6⟩
    · rw [eN] at hi
      rw [t25, t25, if_pos (by omega), if_pos (by omega)]
      exact a13.2 (i + 1) (j + 1) (by omega) (by omega)
  have hW : GW wr0 τ' := fun i hi => by
    rw [t26] at hi
    rw [t25, if_pos hi, t4 902 (by decide), t3 903 (by decide), t4 915 (by decide), t4 916 (by decide), t3 921 (by decide), t3 922 (by decide)]
    exact a17 (i + 1) (by omega)
  refine ⟨⟨c1, c2, ri_e a3 (fun j z _ => ((lrem_off 2 0 (fun _ _ => 0) (wI σ 206 P (nI 2))).1 1002 j (by omega)).1) (fun j z _ => ((lrem_off 2 0 (fun _ _ => 0) (wI σ 206 P (nI 2))).2.1 1001 j (by omega)).1), ⟨n0, n1, by rw [eN]; omega, n3, n4, n5, n6⟩, a5, hS, ⟨by rw [t1 914 (by decide)]; exact g0, by rw [t1 924 (by decide)]; exact g1, by rw [eN, t26, g2], by rw [t1 932 (by decide)]; exact g4, by rw [t1 934 (by decide)]; exact g5, by rw [t1 904 (by decide)]; exact g6⟩, gt_e a8 rfl rfl rfl (by rw [t1 900 (by decide)]) (by rw [t1 901 (by decide)]), gp_e a9 rfl rfl rfl rfl (by rw [t3 903 (by decide)]) (by rw [t4 902 (by decide)]), go_e a10 rfl rfl rfl rfl rfl rfl rfl rfl rfl (by rw [t3 907 (by decide)]) (by rw [t3 908 (by decide)]) (by rw [t3 913 (by decide)]) (by rw [t4 906 (by decide)]) (by rw [t4 910 (by decide)]) (by rw [t4 911 (by decide)]) (by rw [t4 912 (by decide)]), gm_e a11 rfl (by rw [t4 905 (by decide)]), hA, hQ, gg_e a14 rfl rfl (by rw [t4 928 (by decide)]) (by rw [t4 929 (by decide)]) (by rw [t3 927 (by decide)]), gd_e a15 rfl rfl rfl rfl rfl rfl rfl (by rw [t3 930 (by decide)]) (by rw [t3 931 (by decide)]), gr_e a16 rfl rfl rfl rfl rfl rfl rfl rfl (by rw [t4 933 (by decide)]), hW⟩, eN⟩
theorem ni_s {m d : Nat} {σ : St} : k_ni (m + 1) d σ = if σ.1 1002 2 = 0 then (nI d, σ) else if (k_ice (σ.2.2.1 1001 2 0) σ).1 = 0 then (nI d, (k_ice (σ.2.2.1 1001 2 0) σ).2) else k_ni m (d + 1) (k_nx (k_ice (σ.2.2.1 1001 2 0) σ).2) := rfl
theorem ngl_s {f n : Nat} {σ : St} : m_ngl (f + 1) n σ = if (m_n1 σ).1 = 0 then (if σ.1 926 0 - 1 = 0 then (n + 1, m_n2 (σ.2.2.1 925 0 0) (σ.1 926 0) (m_n1 σ).2) else m_ngl f (n + 1) (m_n2 (σ.2.2.1 925 0 0) (σ.1 926 0) (m_n1 σ).2)) else (n, (m_n1 σ).2) := rfl
theorem ni_ngl : ∀ (f n : Nat) (σ τ : St), Rl wr0 σ τ → 0 < σ.1 1002 2 → σ.1 1002 2 ≤ f → (k_ni f n σ).1 = nI (m_ngl f n τ).1 ∧ Rl wr0 (k_ni f n σ).2 (m_ngl f n τ).2
  | 0, n, σ, τ, h, h0, hf => by omega
  | f + 1, n, σ, τ, h, h0, hf => by
    obtain ⟨r1, r2⟩ := rl_ice h h0
    have e2 : σ.1 1002 2 = τ.1 926 0 := h.2.2.2.2.2.2.1.2.2.1
    have hAll := n1_all h.2.2.2.2.2.1.1 (rl_pi h) (rl_qi h) (by omega)
    rw [ni_s, if_neg (by omega), ngl_s]
    rcases r2 with ⟨z1, z2⟩ | ⟨z1, z2⟩
    · rw [if_neg (by rw [z1]; decide), if_pos z2]
      have e3 : (k_ice (σ.2.2.1 1001 2 0) σ).2.1 1002 2 = (m_n1 τ).2.1 926 0 := r1.2.2.2.2.2.2.1.2.2.1
      have e4 : (m_n1 τ).2.1 926 0 = τ.1 926 0 := congrFun hAll.2.2.2.1 0
      have e5 : (m_n1 τ).2.2.2.1 925 0 0 = τ.2.2.1 925 0 0 := congrFun (congrFun hAll.2.2.2.2 0) 0
      obtain ⟨n1, n2⟩ := rl_nx r1 (by omega)
      rw [e4, e5] at n1
      by_cases c : τ.1 926 0 - 1 = 0
      · rw [if_pos c]
        have hk : ∀ g, k_ni g (n + 1) (k_nx (k_ice (σ.2.2.1 1001 2 0) σ).2) = (nI (n + 1), k_nx (k_ice (σ.2.2.1 1001 2 0) σ).2) := fun g => by
          cases g with
          | zero => rfl
          | succ g => exact if_pos (by rw [n2]; omega)
        rw [hk]
        exact ⟨rfl, n1⟩
      · rw [if_neg c]
        exact ni_ngl f (n + 1) _ _ n1 (by rw [n2]; omega) (by rw [n2]; omega)
    · rw [if_pos (show (k_ice (σ.2.2.1 1001 2 0) σ).1 = 0 from z1), if_neg (by rw [z2]; decide)]
      exact ⟨rfl, r1⟩
theorem p_night {σ τ : St} (h : Rl wr0 σ τ) : (k_ni 6 0 σ).1 = (m_night τ).1 ∧ Rl wr0 (k_ni 6 0 σ).2 (m_night τ).2 := by
  have e2 : σ.1 1002 2 = τ.1 926 0 := h.2.2.2.2.2.2.1.2.2.1
  have h2 : σ.1 1002 2 ≤ 6 := h.2.2.2.1.2.2.1
  unfold m_night
  by_cases c : τ.1 926 0 = 0
  · rw [if_pos c, if_pos rfl, ni_s, if_pos (by omega)]
    exact ⟨rfl, rl_944 h⟩
  · rw [if_neg c, if_neg (by decide)]
    exact ni_ngl 6 0 σ (wI τ 944 0 (nI 0)) (rl_944 h) (by omega) h2
