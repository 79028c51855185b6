/-! night: a pallet, on both sides -/
theorem fnd_cong {f g : Nat → Nat} : ∀ (m i : Nat), (∀ j, i ≤ j → j < i + m → f j = g j) → fnd f m i = fnd g m i
  | 0, _, _ => rfl
  | m + 1, i, h => by
    show (if f i = 0 then fnd f m (i + 1) else some i) = (if g i = 0 then fnd g m (i + 1) else some i)
    rw [h i (Nat.le_refl _) (by omega), fnd_cong m (i + 1) (fun j h1 h2 => h j (by omega) (by omega))]
theorem nr_low {P : Nat} {σ τ : St} {s : Sp} (h : NR P σ τ) (ha : AtS s σ) : lowT σ = fnd (LF (τ.2.2.2 911 0) (τ.2.2.2 906 0) (τ.2.2.1 908 0) (τ.2.2.1 907 0) s.2.2) (τ.1 914 0) 0 := by
  obtain ⟨h1, h2, h3, h4, h5, h6, h7, h8⟩ := h
  unfold lowT
  rw [ha.2.2.2.2, h6]
  refine fnd_cong _ 0 (fun j _ hj => ?_)
  have hj : j < σ.1 1002 0 := by omega
  obtain ⟨d0, d1, d2, d3, d4, d5, d6, d7, d8, d9⟩ := h2.1 j hj
  unfold lf LF
  rw [h5 j hj, ← d7, ← d1, ← d3, ← d4]
/-- what else of the two sides a run in truth leaves -/
def FX (P : Nat) (σ σ' : St) : Prop := ∀ F k, 200 ≤ F ∧ F ≤ 203 → k ≠ P → σ'.2.2.2 F k = σ.2.2.2 F k
def FY (P : Nat) (τ τ' : St) : Prop := τ.1 900 0 ≤ τ'.1 900 0 ∧ ∀ i, ¬ (144 * P ≤ i ∧ i < 144 * P + 144) → τ'.2.2.2 917 0 i = τ.2.2.2 917 0 i ∧ ∀ j, j < 4 → τ'.2.2.2 918 0 (4 * i + j) = τ.2.2.2 918 0 (4 * i + j)
theorem fx_fw {P : Nat} {σ σ1 σ' : St} (h : FW σ σ1) (g : FX P σ1 σ') : FX P σ σ' := fun F k a b => (g F k a b).trans (by rw [h.2.2])
theorem fy_put {P : Nat} {s : Sp} {τ τ' : St} (g : FY P (put s τ) τ') : FY P τ τ' := ⟨g.1, fun i hi => by
  have := g.2 i hi
  rw [put_V.2.2.2] at this
  exact this⟩
theorem cut_fy {P c t n ki a9 : Nat} {v : Int32} {τ : St} (hc : c < 144) : FY P τ (wN (wB (wA (wA (m_cutsIn P c t τ) 908 0 t (τ.2.2.1 908 0 t + 1)) 936 0 ki a9) 935 0 c v) 943 0 n) := by
  refine ⟨?_, fun i hi => ?_⟩
  · show τ.1 900 0 ≤ up2 (up2 τ.1 901 0 (τ.1 901 0 + (if 99 ≤ τ.1 901 0 then 0 else 1))) 900 0 (τ.1 900 0 + 1) 900 0
    rw [up2_s]
    exact Nat.le_succ _
  have e7 : (wN (wB (wA (wA (m_cutsIn P c t τ) 908 0 t (τ.2.2.1 908 0 t + 1)) 936 0 ki a9) 935 0 c v) 943 0 n).2.2.2 917 0 = up1 (τ.2.2.2 917 0) (144 * P + c) (nI t) := by
    show up3 (up3 (up3 (up3 (up3 (up3 τ.2.2.2 917 0 (144 * P + c) (nI t)) 918 0 (4 * (144 * P + c)) (τ.2.2.2 905 0 (c % 12))) 918 0 (4 * (144 * P + c) + 1) (nI (τ.1 901 0 * (c % 12) / 10))) 918 0 (4 * (144 * P + c) + 2) (nI (τ.2.2.1 908 0 t / 4))) 918 0 (4 * (144 * P + c) + 3) (-(τ.2.2.2 910 0 t))) 935 0 c v 917 0 = _
    rw [up3_n (fun z => absurd z.1 (by decide)), up3_n (fun z => absurd z.1 (by decide)), up3_n (fun z => absurd z.1 (by decide)), up3_n (fun z => absurd z.1 (by decide)), up3_n (fun z => absurd z.1 (by decide)), up3_s]
  have e8 : (wN (wB (wA (wA (m_cutsIn P c t τ) 908 0 t (τ.2.2.1 908 0 t + 1)) 936 0 ki a9) 935 0 c v) 943 0 n).2.2.2 918 0 = up1 (up1 (up1 (up1 (τ.2.2.2 918 0) (4 * (144 * P + c)) (τ.2.2.2 905 0 (c % 12))) (4 * (144 * P + c) + 1) (nI (τ.1 901 0 * (c % 12) / 10))) (4 * (144 * P + c) + 2) (nI (τ.2.2.1 908 0 t / 4))) (4 * (144 * P + c) + 3) (-(τ.2.2.2 910 0 t)) := by
    show up3 (up3 (up3 (up3 (up3 (up3 τ.2.2.2 917 0 (144 * P + c) (nI t)) 918 0 (4 * (144 * P + c)) (τ.2.2.2 905 0 (c % 12))) 918 0 (4 * (144 * P + c) + 1) (nI (τ.1 901 0 * (c % 12) / 10))) 918 0 (4 * (144 * P + c) + 2) (nI (τ.2.2.1 908 0 t / 4))) 918 0 (4 * (144 * P + c) + 3) (-(τ.2.2.2 910 0 t))) 935 0 c v 918 0 = _
    rw [up3_n (fun z => absurd z.1 (by decide)), up3_s, up3_s, up3_s, up3_s, up3_n (fun z => absurd z.1 (by decide))]
  rw [e7, e8]
  refine ⟨up1_n (by omega), fun j hj => ?_⟩
  rw [up1_n (by omega), up1_n (by omega), up1_n (by omega), up1_n (by omega)]
theorem cl_fd {B : Nat → Int32} {S : Nat → Nat} {P gb : Nat} {c : Int32} {cl : Nat → Int32} (hP : P < 6) : ∀ (T : List Sp) (F n : Nat) (σ τ : St), TK B S T c σ → T.length < F → BT T → KT T → WL σ → WS σ → WK σ → TI σ → NR P σ τ → τ.1 943 0 = n → σ.1 208 P = max n gb → (∀ i, i < 144 → τ.2.2.2 916 0 (144 * P + i) = cl i) → (ab cl gb c T n (τ.2.2.2 935 0) (fun _ => 0)).1 = 0 → NR P (k_cl P gb F n σ).2 (fdG (m_step2 P gb) c T τ).2 ∧ (k_cl P gb F n σ).2.1 208 P = max ((fdG (m_step2 P gb) c T τ).2.1 943 0) gb ∧ FX P σ (k_cl P gb F n σ).2 ∧ FY P τ (fdG (m_step2 P gb) c T τ).2 ∧ n ≤ (fdG (m_step2 P gb) c T τ).2.1 943 0 ∧ (((k_cl P gb F n σ).1 = nI 1 ∧ (fdG (m_step2 P gb) c T τ).1 = 0 ∧ (fdG (m_step2 P gb) c T τ).2.1 943 0 = n + T.length) ∨ ((k_cl P gb F n σ).1 = nI 0 ∧ (fdG (m_step2 P gb) c T τ).1 = (-1) ∧ gb ≤ (fdG (m_step2 P gb) c T τ).2.1 943 0 ∧ (fdG (m_step2 P gb) c T τ).2.1 943 0 < n + T.length ∧ (ab cl ((fdG (m_step2 P gb) c T τ).2.1 943 0) c T n ((fdG (m_step2 P gb) c T τ).2.2.2.2 935 0) (fun _ => 0)).1 = 0))
  | [], F, n, σ, τ, hT, hF, hb, hk, a, b, d, t, hN, h9, h8, hc, h => by
    obtain ⟨F, rfl⟩ : ∃ k, F = k + 1 := ⟨F - 1, by have : ([] : List Sp).length = 0 := rfl; omega⟩
    obtain ⟨e1, e2⟩ := gs_tk hT
    obtain ⟨a1, b1, d1, f1⟩ := gs_inv 601 σ a b d
    have e3 : fdG (m_step2 P gb) c [] τ = (c, τ) := rfl
    rw [cl_e e1, e3]
    refine ⟨nr_fw hN f1, ?_, fx_fw f1 (fun _ _ _ _ => rfl), ⟨Nat.le_refl _, fun _ _ => ⟨rfl, fun _ _ => rfl⟩⟩, Nat.le_of_eq h9.symm, Or.inl ⟨rfl, h, h9⟩⟩
    show (k_gs 601 σ).2.1 208 P = max (τ.1 943 0) gb
    rw [(f1.1 208 P (by omega) (by omega)).1, h8, h9]
  | s :: T, F, n, σ, τ, hT, hF, hb, hk, a, b, d, t, hN, h9, h8, hc, h => by
    have hF : T.length + 1 < F := hF
    obtain ⟨F, rfl⟩ : ∃ k, F = k + 1 := ⟨F - 1, by omega⟩
    obtain ⟨e1, e2, e3⟩ := gs_tk hT
    obtain ⟨a1, b1, d1, f1⟩ := gs_inv 601 σ a b d
    have t1 := ti_fb t f1.ft.fb
    have hn1 : ¬ (k_gs 601 σ).1 = 0 := by rw [e1]; decide
    have hbs := bt_hd hb
    have hs := cel_lt hbs
    have hb1 := bt_tl hb
    have hk1 := kt_tl hk
    have hN1 := nr_fw hN f1
    have g8 : (k_gs 601 σ).2.1 208 P = max n gb := ((f1.1 208 P (by omega) (by omega)).1).trans h8
    have w7 : (put s τ).2.2.1 937 0 = s.1 := put_1
    have w0 : (put s τ).2.1 940 0 = s.2.1 := put_2
    have w2 : (put s τ).2.1 942 0 = s.2.2 := put_3
    have v1 : (put s τ).1 = τ.1 := put_V.1
    have v4 : (put s τ).2.2.2 = τ.2.2.2 := put_V.2.2.2
    have v6 : ∀ F, F ≠ 937 → F ≠ 938 → F ≠ 939 → (put s τ).2.2.1 F = τ.2.2.1 F := put_V.2.2.1
    have hNp : NR P (k_gs 601 σ).2 (put s τ) := nr_V hN1 (by rw [v1]) (by rw [v1]) (by rw [v1]) v4 (by rw [v6 907 (by decide) (by decide) (by decide)]) (by rw [v6 908 (by decide) (by decide) (by decide)]) (by rw [v6 913 (by decide) (by decide) (by decide)])
    have w3 := hc _ hs
    unfold cel at w3
    have hst : m_step2 P gb (put s τ) = if gb ≤ n then (if nI (s.1 2) < cl (cel s) then (nI 3, put s τ) else (if ¬ nI (s.1 2) < τ.2.2.2 935 0 (cel s) then (nI 0, wN (put s τ) 943 0 (n + 1)) else (if s.2.1 = 0 then (nI 3, put s τ) else (if ¬ s.2.2 = (-1) then (if ¬ m_tf 908 s.2.2 τ = (-1) then (nI 0, wN (wB (wA (wA (m_cutsIn P (cel s) (tn (m_tf 908 s.2.2 τ)) (put s τ)) 908 0 (tn (m_tf 908 s.2.2 τ)) ((put s τ).2.2.1 908 0 (tn (m_tf 908 s.2.2 τ)) + 1)) 936 0 (tn s.2.2) (τ.2.2.1 936 0 (tn s.2.2) + 1)) 935 0 (cel s) (nI (s.1 2))) 943 0 (n + 1)) else ((-1), put s τ)) else (nI 3, put s τ))))) else (nI 0, wN (put s τ) 943 0 (n + 1)) := by
      unfold m_step2
      rw [w7, w0, w2, v1, v4, v6 936 (by decide) (by decide) (by decide), w3, tf_V (put_V (s := s) (τ := τ)) (U := 908) (by decide), h9]
      rfl
    have hce := ats_ce e2
    have z2 := e2.2.2.1
    have hle : (k_gs 601 σ).2.2.2.2 200 P (ce (k_gs 601 σ).2) ≤ nI ((k_gs 601 σ).2.2.2.1 703 0 2) ↔ ¬ nI (s.1 2) < τ.2.2.2 935 0 (cel s) := by
      rw [hce, z2, (hN1.2.2.2.1 _ hs).1]
      exact ⟨fun z y => fa_lt_le y z, fun z => Classical.byContradiction (fun y => z (nle_lt.mp y))⟩
    have y1 : (wN (put s τ) 943 0 (n + 1)).1 943 0 = n + 1 := wN_sv
    have y2 : (wN (put s τ) 943 0 (n + 1)).2.2.2 = τ.2.2.2 := v4
    have hN2 : NR P (k_gs 601 σ).2 (wN (put s τ) 943 0 (n + 1)) := nr_V hNp rfl rfl rfl rfl rfl rfl rfl
    have hlen : n + (s :: T).length = n + 1 + T.length := by rw [List.length_cons]; omega
    by_cases c1 : n < gb
    · rw [if_neg (by omega)] at hst
      rw [cl_p hn1 c1, fd_y hst, hlen]
      rw [ab_p c1] at h
      obtain ⟨q1, q2, q3, q4, q5, q6⟩ := cl_fd (B := B) (S := S) (c := c) (cl := cl) (gb := gb) hP T F (n + 1) _ _ e3 (by omega) hb1 hk1 a1 b1 d1 t1 hN2 y1 (by rw [g8]; omega) (by rw [y2]; exact hc) (by rw [y2]; exact h)
      refine ⟨q1, q2, fx_fw f1 q3, fy_put q4, by omega, ?_⟩
      rcases q6 with q6 | ⟨r1, r2, r3, r4, r5⟩
      · exact Or.inl q6
      · refine Or.inr ⟨r1, r2, r3, r4, ?_⟩
        rw [ab_p (by omega)]
        exact r5
    rw [if_pos (by omega)] at hst
    by_cases c2 : bad cl (τ.2.2.2 935 0) s
    · rw [ab_b c1 c2] at h
      exact absurd (show nI 3 = 0 from h) (by decide)
    have n1 : ¬ nI (s.1 2) < cl (cel s) := fun z => c2 (Or.inl z)
    rw [if_neg n1] at hst
    by_cases c3 : nI (s.1 2) < τ.2.2.2 935 0 (cel s)
    · have n2 : ¬ s.2.1 = 0 := fun z => c2 (Or.inr ⟨c3, Or.inl z⟩)
      have n3 : ¬ s.2.2 = (-1) := fun z => c2 (Or.inr ⟨c3, Or.inr z⟩)
      rw [if_neg (fun z => z c3), if_neg n2, if_pos n3] at hst
      have hlow := nr_low hN1 e2
      have ht : m_tf 908 s.2.2 τ = oI (fnd (LF (τ.2.2.2 911 0) (τ.2.2.2 906 0) (τ.2.2.1 908 0) (τ.2.2.1 907 0) s.2.2) (τ.1 914 0) 0) := tff_fnd _ _
      rw [← hlow] at ht
      have hw : ¬ (k_gs 601 σ).2.2.2.2 200 P (ce (k_gs 601 σ).2) ≤ nI ((k_gs 601 σ).2.2.2.1 703 0 2) := fun z => hle.mp z c3
      cases hl : lowT (k_gs 601 σ).2 with
      | none =>
        rw [hl] at ht
        have ht : m_tf 908 s.2.2 τ = (-1) := ht
        rw [if_neg (fun z => z ht)] at hst
        rw [cl_n hn1 c1 hw hl, fd_z hst (by decide)]
        have p9 : (put s τ).1 943 0 = n := by rw [v1]; exact h9
        have p5 : (put s τ).2.2.2 935 0 = τ.2.2.2 935 0 := by rw [v4]
        refine ⟨hNp, ?_, fx_fw f1 (fun _ _ _ _ => rfl), fy_put ⟨Nat.le_refl _, fun _ _ => ⟨rfl, fun _ _ => rfl⟩⟩, ?_, Or.inr ⟨rfl, rfl, ?_, ?_, ?_⟩⟩
        · show (k_gs 601 σ).2.1 208 P = max ((put s τ).1 943 0) gb
          rw [p9]; exact g8
        · show n ≤ (put s τ).1 943 0
          omega
        · show gb ≤ (put s τ).1 943 0
          omega
        · show (put s τ).1 943 0 < n + (s :: T).length
          omega
        · show (ab cl ((put s τ).1 943 0) c (s :: T) n ((put s τ).2.2.2 935 0) (fun _ => 0)).1 = 0
          rw [p9, p5, ab_fr (fr := n) (fr' := gb) (s :: T) n _ _ (Nat.le_refl _) (by omega)]
          exact h
      | some i =>
        rw [hl] at ht
        have ht : m_tf 908 s.2.2 τ = nI i := ht
        rw [hlow] at hl
        obtain ⟨-, hi1, hi2⟩ := fnd_some _ _ hl
        rw [← hlow] at hl
        have hi0 : i < (k_gs 601 σ).2.1 1002 0 := by rw [hN1.2.2.2.2.2.1]; omega
        have h16 := hN1.2.2.2.2.2.2.1
        have hid := hN1.2.2.2.2.1 i hi0
        have hne : ¬ nI i = (-1) := fun z => by
          have h9 := congrArg Int32.toInt z
          rw [nI_tz (by omega)] at h9
          have h8 : (-1 : Int32).toInt = -1 := rfl
          omega
        have hlf : ¬ lf (k_gs 601 σ).2 ((k_gs 601 σ).2.2.1 709 0) i = 0 := by
          have := (fnd_some _ _ hl).2.2
          rw [hid] at this
          exact this
        rw [ht, if_pos hne, tn_nI (by omega)] at hst
        rw [cl_c hn1 c1 hw hl, hid, fd_y hst, hlen]
        rw [ab_c c1 c2 c3] at h
        obtain ⟨a2, b2, d2, t2⟩ := cut_inv (q := P) a1 b1 d1 t1 hlf
        obtain ⟨a3, b3, d3, t3⟩ := go_inv (q := P) a2 b2 d2 t2
        have hN3 := nr_cut (n := n + 1) (ki := tn s.2.2) (a9 := τ.2.2.1 936 0 (tn s.2.2) + 1) hNp t1 e2 hbs hP hi0
        have hFY := cut_fy (P := P) (c := cel s) (t := i) (n := n + 1) (ki := tn s.2.2) (a9 := τ.2.2.1 936 0 (tn s.2.2) + 1) (v := nI (s.1 2)) (τ := put s τ) hs
        have hK : EqK (k_gs 601 σ).2 (k_go P (k_cut i P (k_gs 601 σ).2)) := ⟨fun F h => funext fun k => (go_1 (by omega)).trans (cut_1 (by omega) (by omega) (by omega)), fun F _ _ => by rw [go_I, cut_I], fun F _ => by rw [go_A, cut_A], fun F h => by rw [go_B]; exact cut_B ⟨by omega, by omega⟩⟩
        have hFX : FX P (k_gs 601 σ).2 (k_go P (k_cut i P (k_gs 601 σ).2)) := fun F k u v => by rw [go_B]; exact cut_k u v
        have x1 : (wN (wB (wA (wA (m_cutsIn P (cel s) i (put s τ)) 908 0 i ((put s τ).2.2.1 908 0 i + 1)) 936 0 (tn s.2.2) (τ.2.2.1 936 0 (tn s.2.2) + 1)) 935 0 (cel s) (nI (s.1 2))) 943 0 (n + 1)).1 943 0 = n + 1 := wN_sv
        have xB : ∀ F, F ≠ 917 → F ≠ 918 → F ≠ 935 → (wN (wB (wA (wA (m_cutsIn P (cel s) i (put s τ)) 908 0 i ((put s τ).2.2.1 908 0 i + 1)) 936 0 (tn s.2.2) (τ.2.2.1 936 0 (tn s.2.2) + 1)) 935 0 (cel s) (nI (s.1 2))) 943 0 (n + 1)).2.2.2 F 0 = τ.2.2.2 F 0 := fun F u v w => by
          rw [← v4]
          show up3 (up3 (up3 (up3 (up3 (up3 (put s τ).2.2.2 917 0 (144 * P + cel s) (nI i)) 918 0 (4 * (144 * P + cel s)) ((put s τ).2.2.2 905 0 (cel s % 12))) 918 0 (4 * (144 * P + cel s) + 1) (nI ((put s τ).1 901 0 * (cel s % 12) / 10))) 918 0 (4 * (144 * P + cel s) + 2) (nI ((put s τ).2.2.1 908 0 i / 4))) 918 0 (4 * (144 * P + cel s) + 3) (-((put s τ).2.2.2 910 0 i))) 935 0 (cel s) (nI (s.1 2)) F 0 = _
          rw [up3_n (fun z => w z.1), up3_n (fun z => v z.1), up3_n (fun z => v z.1), up3_n (fun z => v z.1), up3_n (fun z => v z.1), up3_n (fun z => u z.1)]
        have x5 : (wN (wB (wA (wA (m_cutsIn P (cel s) i (put s τ)) 908 0 i ((put s τ).2.2.1 908 0 i + 1)) 936 0 (tn s.2.2) (τ.2.2.1 936 0 (tn s.2.2) + 1)) 935 0 (cel s) (nI (s.1 2))) 943 0 (n + 1)).2.2.2 935 0 = up1 (τ.2.2.2 935 0) (cel s) (nI (s.1 2)) := by
          rw [← v4]
          show up3 (m_cutsIn P (cel s) i (put s τ)).2.2.2 935 0 (cel s) (nI (s.1 2)) 935 0 = _
          rw [up3_s]
          rfl
        generalize wN (wB (wA (wA (m_cutsIn P (cel s) i (put s τ)) 908 0 i ((put s τ).2.2.1 908 0 i + 1)) 936 0 (tn s.2.2) (τ.2.2.1 936 0 (tn s.2.2) + 1)) 935 0 (cel s) (nI (s.1 2))) 943 0 (n + 1) = X at hN3 hFY x1 xB x5 ⊢
        have hg8 : (k_go P (k_cut i P (k_gs 601 σ).2)).1 208 P = max (n + 1) gb := by
          rw [go_s, cut_1 (by decide) (by decide) (by decide), g8]; omega
        generalize k_go P (k_cut i P (k_gs 601 σ).2) = σ3 at a3 b3 d3 t3 hN3 hK hFX hg8 ⊢
        obtain ⟨q1, q2, q3, q4, q5, q6⟩ := cl_fd (B := B) (S := S) (c := c) (cl := cl) (gb := gb) hP T F (n + 1) σ3 X (tk_eq e3 hK) (by omega) hb1 hk1 a3 b3 d3 t3 hN3 x1 hg8 (by rw [xB 916 (by decide) (by decide) (by decide)]; exact hc) (by rw [x5]; exact (ab_cu T (n + 1) _ _ _).trans h)
        refine ⟨q1, q2, fx_fw f1 (fun F k u v => (q3 F k u v).trans (hFX F k u v)), fy_put (s := s) ⟨Nat.le_trans hFY.1 q4.1, fun j hj => ?_⟩, by omega, ?_⟩
        · obtain ⟨r1, r2⟩ := q4.2 j hj
          obtain ⟨r3, r4⟩ := hFY.2 j hj
          exact ⟨r1.trans r3, fun k hk => (r2 k hk).trans (r4 k hk)⟩
        · rcases q6 with q6 | ⟨r1, r2, r3, r4, r5⟩
          · exact Or.inl q6
          · refine Or.inr ⟨r1, r2, r3, r4, ?_⟩
            rw [ab_p (by omega)]
            exact r5
    · rw [if_pos c3] at hst
      rw [cl_g hn1 c1 (hle.mpr c3), fd_y hst, hlen]
      rw [ab_g c1 c2 c3] at h
      obtain ⟨a2, b2, d2, t2⟩ := go_inv (q := P) a1 b1 d1 t1
      have hK : EqK (k_gs 601 σ).2 (k_go P (k_gs 601 σ).2) := ⟨fun F h => funext fun k => go_1 (by omega), fun F _ _ => rfl, fun F _ => rfl, fun F _ => rfl⟩
      obtain ⟨q1, q2, q3, q4, q5, q6⟩ := cl_fd (B := B) (S := S) (c := c) (cl := cl) (gb := gb) hP T F (n + 1) (k_go P (k_gs 601 σ).2) _ (tk_eq e3 hK) (by omega) hb1 hk1 a2 b2 d2 t2 (nr_go hN2) y1 (by rw [go_s, g8]; omega) (by rw [y2]; exact hc) (by rw [y2]; exact h)
      refine ⟨q1, q2, fx_fw f1 q3, fy_put q4, by omega, ?_⟩
      rcases q6 with q6 | ⟨r1, r2, r3, r4, r5⟩
      · exact Or.inl q6
      · refine Or.inr ⟨r1, r2, r3, r4, ?_⟩
        rw [ab_p (by omega)]
        exact r5
