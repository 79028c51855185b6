/-! foresees: tools of a kind stand in for one another -/
def LF (l9 kd : Nat → Int32) (u lv : Nat → Nat) (its : Int32) (t : Nat) : Nat := if l9 t = 0 then 0 else if ¬ kd t = its then 0 else lv t - u t
def oI (o : Option Nat) : Int32 := match o with
  | none => -1
  | some i => nI i
theorem LF_c {l9 kd : Nat → Int32} {u lv : Nat → Nat} {its : Int32} {t : Nat} : (¬ l9 t = 0 ∧ kd t = its ∧ u t < lv t) ↔ ¬ LF l9 kd u lv its t = 0 := by
  unfold LF
  by_cases c1 : l9 t = 0
  · rw [if_pos c1]
    exact ⟨fun z => absurd c1 z.1, fun z => absurd rfl z⟩
  · rw [if_neg c1]
    by_cases c2 : kd t = its
    · rw [if_neg (fun z => z c2)]
      exact ⟨fun z => by omega, fun z => ⟨c1, c2, by omega⟩⟩
    · rw [if_pos c2]
      exact ⟨fun z => absurd z.2.1 c2, fun z => absurd rfl z⟩
theorem tff_fnd {l9 kd : Nat → Int32} {u lv : Nat → Nat} {its : Int32} : ∀ (f k : Nat), tff l9 kd u lv its f k = oI (fnd (LF l9 kd u lv its) f k)
  | 0, _ => rfl
  | f + 1, k => by
    show (if ¬ l9 k = 0 ∧ kd k = its ∧ u k < lv k then nI k else tff l9 kd u lv its f (k + 1)) = oI (if LF l9 kd u lv its k = 0 then fnd (LF l9 kd u lv its) f (k + 1) else some k)
    by_cases c : LF l9 kd u lv its k = 0
    · rw [if_pos c, if_neg (fun z => LF_c.mp z c)]
      exact tff_fnd f (k + 1)
    · rw [if_neg c, if_pos (LF_c.mpr c)]
      rfl
theorem fnd_none {f : Nat → Nat} : ∀ (m i : Nat), fnd f m i = none → ∀ j, i ≤ j → j < i + m → f j = 0
  | 0, _, _, j, h1, h2 => by omega
  | m + 1, i, h, j, h1, h2 => by
    have e : fnd f (m + 1) i = if f i = 0 then fnd f m (i + 1) else some i := rfl
    rw [e] at h
    by_cases c : f i = 0
    · rw [if_pos c] at h
      by_cases q : j = i
      · rw [q]; exact c
      · exact fnd_none m (i + 1) h j (by omega) (by omega)
    · rw [if_neg c] at h
      cases h
theorem sum_zero {f : Nat → Nat} : ∀ n, (∀ i, i < n → f i = 0) → sumL f n = 0
  | 0, _ => rfl
  | n + 1, h => by
    show sumL f n + f n = 0
    rw [sum_zero n (fun i hi => h i (by omega)), h n (by omega)]
theorem sum_one {f f' : Nat → Nat} {t : Nat} : ∀ n, (∀ i, i < n → i ≠ t → f i = f' i) → t < n → f t = f' t + 1 → sumL f n = sumL f' n + 1
  | 0, _, ht, _ => absurd ht (Nat.not_lt_zero _)
  | n + 1, h, ht, hf => by
    show sumL f n + f n = sumL f' n + f' n + 1
    by_cases c : t = n
    · subst c
      rw [sum_cong (f := f) (g := f') t (fun i hi => h i (by omega) (by omega)), hf]
      omega
    · rw [sum_one n (fun i hi => h i (by omega)) (by omega) hf, h n (by omega) (fun z => c z.symm)]
      omega
theorem sum_le {f : Nat → Nat} {b : Nat} : ∀ n, (∀ i, i < n → f i ≤ b) → sumL f n ≤ b * n
  | 0, _ => Nat.zero_le _
  | n + 1, h => by
    show sumL f n + f n ≤ b * (n + 1)
    have h1 := sum_le n (fun i hi => h i (by omega))
    have h2 := h n (by omega)
    rw [Nat.mul_succ]
    omega
def LSp (τ : St) (k : Nat) : Nat := sumL (LF (τ.2.2.2 911 0) (τ.2.2.2 906 0) (τ.2.2.1 909 0) (τ.2.2.1 907 0) (nI k)) (τ.1 914 0)
def KT (T : List Sp) : Prop := ∀ s, s ∈ T → s.2.2 = (-1) ∨ ix s.2.2 4
theorem kt_hd {s : Sp} {T : List Sp} (h : KT (s :: T)) : s.2.2 = (-1) ∨ ix s.2.2 4 := h s (List.mem_cons_self)
theorem kt_tl {s : Sp} {T : List Sp} (h : KT (s :: T)) : KT T := fun x hx => h x (List.mem_cons_of_mem _ hx)
theorem tk_kt {B : Nat → Int32} {S : Nat → Nat} {c : Int32} : ∀ (T : List Sp) (σ : St), TK B S T c σ → WL σ → WS σ → WK σ → KT T
  | [], _, _, _, _, _ => fun _ hs => absurd hs (List.not_mem_nil)
  | s :: T, σ, h, a, b, d => fun x hx => by
    obtain ⟨e1, e2, e3⟩ := gs_tk h
    obtain ⟨a1, b1, d1, f1⟩ := gs_inv 601 σ a b d
    rcases List.mem_cons.mp hx with rfl | hx
    · rw [← e2.2.2.2.2]
      exact d1.1
    · exact tk_kt T _ e3 a1 b1 d1 x hx
theorem TR_kt {B : Nat → Int32} {S : Nat → Nat} {σ : St} {pr : Nat} (hG : GPs B S σ) (hR : KR σ) (hpr : pr < σ.1 1002 6) : KT (TR B S pr).1 := by
  have h6 : σ.1 1002 6 ≤ 6 := hG.2.2
  obtain ⟨a, b, d, f⟩ := beg_inv (v := nI pr) hR.1 ((ix_nI (by omega)).mpr hpr) hR.2.1 hR.2.2.1 hR.2.2.2
  exact tk_kt _ _ (beg_tk hG hpr) a b d
theorem fd_y {g : St → Int32 × St} {c : Int32} {s : Sp} {T : List Sp} {τ X : St} (h : g (put s τ) = (nI 0, X)) : fdG g c (s :: T) τ = fdG g c T X := by
  have h1 : (g (put s τ)).1 = 0 := by rw [h]; rfl
  have h2 : fdG g c (s :: T) τ = fdG g c T (g (put s τ)).2 := if_pos h1
  rw [h2, h]
theorem fd_z {g : St → Int32 × St} {c v : Int32} {s : Sp} {T : List Sp} {τ X : St} (h : g (put s τ) = (v, X)) (hv : ¬ v = 0) : fdG g c (s :: T) τ = (v, X) := by
  have h1 : ¬ (g (put s τ)).1 = 0 := by rw [h]; exact hv
  have h2 : fdG g c (s :: T) τ = g (put s τ) := if_neg h1
  rw [h2, h]
theorem fd1_ab {P fr : Nat} {c : Int32} {cl : Nat → Int32} : ∀ (T : List Sp) (τ : St), (∀ i, i < 144 → τ.2.2.2 916 0 (144 * P + i) = cl i) → BT T → KT T → τ.1 914 0 ≤ 16 → (ab cl fr c T (τ.1 943 0) (τ.2.2.2 935 0) (τ.2.2.1 936 0)).1 = 0 → ((fdG (m_step1 P fr) c T τ).1 = 0 ∧ ∀ k, k < 4 → LSp (fdG (m_step1 P fr) c T τ).2 k + (ab cl fr c T (τ.1 943 0) (τ.2.2.2 935 0) (τ.2.2.1 936 0)).2.2.2 k = LSp τ k + τ.2.2.1 936 0 k) ∨ ((fdG (m_step1 P fr) c T τ).1 = (-1) ∧ ∃ k, k < 4 ∧ LSp τ k + τ.2.2.1 936 0 k < (ab cl fr c T (τ.1 943 0) (τ.2.2.2 935 0) (τ.2.2.1 936 0)).2.2.2 k)
  | [], _, _, _, _, _, h => Or.inl ⟨h, fun _ _ => rfl⟩
  | s :: T, τ, hc, hb, hk, h16, h => by
    have hs := cel_lt (bt_hd hb)
    have hb1 := bt_tl hb
    have hk1 := kt_tl hk
    have e7 : (put s τ).2.2.1 937 0 = s.1 := put_1
    have e0 : (put s τ).2.1 940 0 = s.2.1 := put_2
    have e2 : (put s τ).2.1 942 0 = s.2.2 := put_3
    have v1 : (put s τ).1 = τ.1 := put_V.1
    have v4 : (put s τ).2.2.2 = τ.2.2.2 := put_V.2.2.2
    have v6 : ∀ F, F ≠ 937 → F ≠ 938 → F ≠ 939 → (put s τ).2.2.1 F = τ.2.2.1 F := put_V.2.2.1
    have e3 := hc _ hs
    unfold cel at e3
    have hst : m_step1 P fr (put s τ) = if fr ≤ τ.1 943 0 then (if nI (s.1 2) < cl (cel s) then (nI 3, put s τ) else (if ¬ nI (s.1 2) < τ.2.2.2 935 0 (cel s) then (nI 0, wN (put s τ) 943 0 (τ.1 943 0 + 1)) else (if s.2.1 = 0 then (nI 3, put s τ) else (if ¬ s.2.2 = (-1) then (if ¬ m_tf 909 s.2.2 τ = (-1) then (nI 0, wN (wB (wA (wA (put s τ) 909 0 (tn (m_tf 909 s.2.2 τ)) (τ.2.2.1 909 0 (tn (m_tf 909 s.2.2 τ)) + 1)) 936 0 (tn s.2.2) (τ.2.2.1 936 0 (tn s.2.2) + 1)) 935 0 (cel s) (nI (s.1 2))) 943 0 (τ.1 943 0 + 1)) else ((-1), put s τ)) else (nI 3, put s τ))))) else (nI 0, wN (put s τ) 943 0 (τ.1 943 0 + 1)) := by
      unfold m_step1
      rw [e7, e0, e2, v1, v4, v6 936 (by decide) (by decide) (by decide), v6 909 (by decide) (by decide) (by decide), e3, tf_V (put_V (s := s) (τ := τ)) (U := 909) (by decide)]
      rfl
    have same : ∀ k, LSp (wN (put s τ) 943 0 (τ.1 943 0 + 1)) k = LSp τ k := fun k => by
      unfold LSp
      show sumL (LF ((put s τ).2.2.2 911 0) ((put s τ).2.2.2 906 0) ((put s τ).2.2.1 909 0) ((put s τ).2.2.1 907 0) (nI k)) ((put s τ).1 914 0) = _
      rw [v1, v4, v6 909 (by decide) (by decide) (by decide), v6 907 (by decide) (by decide) (by decide)]
    have go : ab cl fr c (s :: T) (τ.1 943 0) (τ.2.2.2 935 0) (τ.2.2.1 936 0) = ab cl fr c T (τ.1 943 0 + 1) (τ.2.2.2 935 0) (τ.2.2.1 936 0) → m_step1 P fr (put s τ) = (nI 0, wN (put s τ) 943 0 (τ.1 943 0 + 1)) → ((fdG (m_step1 P fr) c (s :: T) τ).1 = 0 ∧ ∀ k, k < 4 → LSp (fdG (m_step1 P fr) c (s :: T) τ).2 k + (ab cl fr c (s :: T) (τ.1 943 0) (τ.2.2.2 935 0) (τ.2.2.1 936 0)).2.2.2 k = LSp τ k + τ.2.2.1 936 0 k) ∨ ((fdG (m_step1 P fr) c (s :: T) τ).1 = (-1) ∧ ∃ k, k < 4 ∧ LSp τ k + τ.2.2.1 936 0 k < (ab cl fr c (s :: T) (τ.1 943 0) (τ.2.2.2 935 0) (τ.2.2.1 936 0)).2.2.2 k) := fun g1 g2 => by
      have g3 : fdG (m_step1 P fr) c (s :: T) τ = fdG (m_step1 P fr) c T (wN (put s τ) 943 0 (τ.1 943 0 + 1)) := fd_y g2
      rw [g1] at h ⊢
      rw [g3]
      have w1 : (wN (put s τ) 943 0 (τ.1 943 0 + 1)).1 943 0 = τ.1 943 0 + 1 := wN_sv
      have w2 : (wN (put s τ) 943 0 (τ.1 943 0 + 1)).2.2.2 = τ.2.2.2 := v4
      have w3 : (wN (put s τ) 943 0 (τ.1 943 0 + 1)).2.2.1 936 = τ.2.2.1 936 := v6 936 (by decide) (by decide) (by decide)
      have w4 : (wN (put s τ) 943 0 (τ.1 943 0 + 1)).1 914 0 = τ.1 914 0 := by
        show (put s τ).1 914 0 = _
        rw [v1]
      have := fd1_ab (P := P) (fr := fr) (c := c) (cl := cl) T (wN (put s τ) 943 0 (τ.1 943 0 + 1)) (by rw [w2]; exact hc) hb1 hk1 (by rw [w4]; exact h16) (by rw [w1, w2, w3]; exact h)
      rw [w1, w2, w3] at this
      simp only [same] at this
      exact this
    by_cases c1 : fr ≤ τ.1 943 0
    · by_cases c2 : bad cl (τ.2.2.2 935 0) s
      · rw [ab_b (by omega) c2] at h
        exact absurd (show nI 3 = 0 from h) (by decide)
      by_cases c3 : nI (s.1 2) < τ.2.2.2 935 0 (cel s)
      · have n1 : ¬ nI (s.1 2) < cl (cel s) := fun z => c2 (Or.inl z)
        have n2 : ¬ s.2.1 = 0 := fun z => c2 (Or.inr ⟨c3, Or.inl z⟩)
        have n3 : ¬ s.2.2 = (-1) := fun z => c2 (Or.inr ⟨c3, Or.inr z⟩)
        have hki : ix s.2.2 4 := (kt_hd hk).resolve_left n3
        have hkt := ix_lt hki
        rw [if_pos c1, if_neg n1, if_neg (fun z => z c3), if_neg n2, if_pos n3] at hst
        have hm := ab_mono (fr := fr) (c := c) (cl := cl) (k := tn s.2.2) T (τ.1 943 0 + 1) (up1 (τ.2.2.2 935 0) (cel s) (nI (s.1 2))) (up1 (τ.2.2.1 936 0) (tn s.2.2) (τ.2.2.1 936 0 (tn s.2.2) + 1))
        rw [up1_s] at hm
        have ht : m_tf 909 s.2.2 τ = oI (fnd (LF (τ.2.2.2 911 0) (τ.2.2.2 906 0) (τ.2.2.1 909 0) (τ.2.2.1 907 0) s.2.2) (τ.1 914 0) 0) := tff_fnd _ _
        rw [ab_c (by omega) c2 c3] at h ⊢
        cases hf : fnd (LF (τ.2.2.2 911 0) (τ.2.2.2 906 0) (τ.2.2.1 909 0) (τ.2.2.1 907 0) s.2.2) (τ.1 914 0) 0 with
        | none =>
          rw [hf] at ht
          have ht : m_tf 909 s.2.2 τ = (-1) := ht
          rw [if_neg (fun z => z ht)] at hst
          have g3 : fdG (m_step1 P fr) c (s :: T) τ = ((-1), put s τ) := fd_z hst (by decide)
          rw [g3]
          refine Or.inr ⟨rfl, tn s.2.2, hkt, ?_⟩
          have hz : LSp τ (tn s.2.2) = 0 := by
            unfold LSp
            rw [← ix_eq hki]
            exact sum_zero _ (fun i hi => fnd_none _ _ hf i (Nat.zero_le _) (by omega))
          omega
        | some t =>
          rw [hf] at ht
          have ht : m_tf 909 s.2.2 τ = nI t := ht
          obtain ⟨-, ht1, ht2⟩ := fnd_some _ _ hf
          have ht0 : t < τ.1 914 0 := by omega
          have htt : tn (nI t) = t := tn_nI (by omega)
          obtain ⟨l1, l2, l3⟩ := LF_c.mpr ht2
          have hne : ¬ nI t = (-1) := fun z => by
            have h9 := congrArg Int32.toInt z
            rw [nI_tz (by omega)] at h9
            have h8 : (-1 : Int32).toInt = -1 := rfl
            omega
          rw [ht, if_pos hne, htt] at hst
          generalize hX : wN (wB (wA (wA (put s τ) 909 0 t (τ.2.2.1 909 0 t + 1)) 936 0 (tn s.2.2) (τ.2.2.1 936 0 (tn s.2.2) + 1)) 935 0 (cel s) (nI (s.1 2))) 943 0 (τ.1 943 0 + 1) = X at hst
          have g3 : fdG (m_step1 P fr) c (s :: T) τ = fdG (m_step1 P fr) c T X := fd_y hst
          rw [g3]
          have w1 : X.1 943 0 = τ.1 943 0 + 1 := by rw [← hX]; exact wN_sv
          have w2 : X.2.2.2 935 0 = up1 (τ.2.2.2 935 0) (cel s) (nI (s.1 2)) := by
            rw [← hX]
            show up3 (put s τ).2.2.2 935 0 (cel s) (nI (s.1 2)) 935 0 = _
            rw [up3_s, v4]
          have w2' : ∀ F, F ≠ 935 → X.2.2.2 F 0 = τ.2.2.2 F 0 := fun F z => by
            rw [← hX]
            show up3 (put s τ).2.2.2 935 0 (cel s) (nI (s.1 2)) F 0 = _
            rw [up3_n (fun y => z y.1), v4]
          have w3 : X.2.2.1 936 0 = up1 (τ.2.2.1 936 0) (tn s.2.2) (τ.2.2.1 936 0 (tn s.2.2) + 1) := by
            rw [← hX]
            show up3 (up3 (put s τ).2.2.1 909 0 t (τ.2.2.1 909 0 t + 1)) 936 0 (tn s.2.2) (τ.2.2.1 936 0 (tn s.2.2) + 1) 936 0 = _
            rw [up3_s, up3_n (fun y => absurd y.1 (by decide)), v6 936 (by decide) (by decide) (by decide)]
          have w9 : X.2.2.1 909 0 = up1 (τ.2.2.1 909 0) t (τ.2.2.1 909 0 t + 1) := by
            rw [← hX]
            show up3 (up3 (put s τ).2.2.1 909 0 t (τ.2.2.1 909 0 t + 1)) 936 0 (tn s.2.2) (τ.2.2.1 936 0 (tn s.2.2) + 1) 909 0 = _
            rw [up3_n (fun y => absurd y.1 (by decide)), up3_s, v6 909 (by decide) (by decide) (by decide)]
          have w7 : X.2.2.1 907 0 = τ.2.2.1 907 0 := by
            rw [← hX]
            show up3 (up3 (put s τ).2.2.1 909 0 t (τ.2.2.1 909 0 t + 1)) 936 0 (tn s.2.2) (τ.2.2.1 936 0 (tn s.2.2) + 1) 907 0 = _
            rw [up3_n (fun y => absurd y.1 (by decide)), up3_n (fun y => absurd y.1 (by decide)), v6 907 (by decide) (by decide) (by decide)]
          have w4 : X.1 914 0 = τ.1 914 0 := by
            rw [← hX]
            show up2 (put s τ).1 943 0 (τ.1 943 0 + 1) 914 0 = _
            rw [up2_n (fun y => absurd y.1 (by decide)), v1]
          have hls : ∀ k, k < 4 → LSp τ k + τ.2.2.1 936 0 k = LSp X k + X.2.2.1 936 0 k := fun k hk4 => by
            unfold LSp
            rw [w4, w2' 911 (by decide), w2' 906 (by decide), w9, w7, w3]
            by_cases q : k = tn s.2.2
            · rw [q, up1_s, ← ix_eq hki]
              have := sum_one (f := LF (τ.2.2.2 911 0) (τ.2.2.2 906 0) (τ.2.2.1 909 0) (τ.2.2.1 907 0) s.2.2) (f' := LF (τ.2.2.2 911 0) (τ.2.2.2 906 0) (up1 (τ.2.2.1 909 0) t (τ.2.2.1 909 0 t + 1)) (τ.2.2.1 907 0) s.2.2) (t := t) (τ.1 914 0) (fun i _ hi => by
                unfold LF
                rw [up1_n hi]) ht0 (by
                unfold LF
                rw [if_neg l1, if_neg l1, if_neg (fun z => z l2), if_neg (fun z => z l2), up1_s]
                omega)
              omega
            · rw [up1_n q]
              have := sum_cong (f := LF (τ.2.2.2 911 0) (τ.2.2.2 906 0) (τ.2.2.1 909 0) (τ.2.2.1 907 0) (nI k)) (g := LF (τ.2.2.2 911 0) (τ.2.2.2 906 0) (up1 (τ.2.2.1 909 0) t (τ.2.2.1 909 0 t + 1)) (τ.2.2.1 907 0) (nI k)) (τ.1 914 0) (fun i _ => by
                unfold LF
                by_cases hi : i = t
                · rw [hi]
                  have hkk : ¬ τ.2.2.2 906 0 t = nI k := fun z => by
                    rw [l2, ix_eq hki] at z
                    have h9 := congrArg Int32.toInt z
                    rw [nI_tz (by omega), nI_tz (by omega)] at h9
                    omega
                  rw [if_pos hkk, if_pos hkk]
                · rw [up1_n hi])
              omega
          have := fd1_ab (P := P) (fr := fr) (c := c) (cl := cl) T X (by rw [w2' 916 (by decide)]; exact hc) hb1 hk1 (by rw [w4]; exact h16) (by rw [w1, w2, w3]; exact h)
          rw [w1, w2] at this
          rcases this with ⟨z1, z2⟩ | ⟨z1, k, z2, z3⟩
          · refine Or.inl ⟨z1, fun k hk4 => ?_⟩
            have := z2 k hk4
            rw [hls k hk4, ← this, ← w3]
          · refine Or.inr ⟨z1, k, z2, ?_⟩
            rw [hls k z2, ← w3]
            exact z3
      · have n1 : ¬ nI (s.1 2) < cl (cel s) := fun z => c2 (Or.inl z)
        rw [if_pos c1, if_neg n1, if_pos c3] at hst
        exact go (ab_g (by omega) c2 c3) hst
    · rw [if_neg c1] at hst
      exact go (ab_p (by omega)) hst
theorem ini0_914 {pr : Nat} {X : St} : (m_ini0 pr X).1 914 0 = X.1 914 0 := by
  show up2 X.1 943 0 0 914 0 = _
  exact up2_n (fun z => absurd z.1 (by decide))
theorem ini0_A {pr F : Nat} {X : St} (h : F = 907 ∨ F = 909) : (m_ini0 pr X).2.2.1 F = X.2.2.1 F := by
  rcases h with rfl | rfl <;> rfl
/-- a run with the spare tools, by what a run without tools cuts -/
theorem runs1_ab {P pr fr : Nat} {τ : St} (h16 : τ.1 914 0 ≤ 16) (hk : KT (TR (τ.2.2.2 902 0) (τ.2.2.1 903 0) pr).1) (h : (m_runs0 P pr fr τ).1 = 0) : ((m_runs1 P pr fr τ).1 = 0 ∧ ∀ k, k < 4 → LSp (m_runs1 P pr fr τ).2 k + (m_runs0 P pr fr τ).2.2.2.1 936 0 k = LSp τ k) ∨ ((m_runs1 P pr fr τ).1 = (-1) ∧ ∃ k, k < 4 ∧ LSp τ k < (m_runs0 P pr fr τ).2.2.2.1 936 0 k) := by
  obtain ⟨e1, e2⟩ := runs_fd (stG_0 P fr) (pl := P) (pr := pr) (τ := τ)
  rw [← rl0_G] at e1 e2
  obtain ⟨d1, d2⟩ := runs_fd (stG_1 P fr) (pl := P) (pr := pr) (τ := τ)
  rw [← rl1_G] at d1 d2
  have hb := (TR_bd (B := τ.2.2.2 902 0) (S := τ.2.2.1 903 0) (pr := pr)).1
  generalize TR (τ.2.2.2 902 0) (τ.2.2.1 903 0) pr = R at e1 e2 d1 d2 hb hk
  obtain ⟨q1, q2, q3, q4⟩ := fd0_ab (P := P) (fr := fr) (c := R.2) (cl := fun i => (m_ini P pr τ).2.2.2 916 0 (144 * P + i)) R.1 (m_ini P pr τ) (fun i hi => rfl) hb
  have hz : (ab (fun i => (m_ini P pr τ).2.2.2 916 0 (144 * P + i)) fr R.2 R.1 ((m_ini P pr τ).1 943 0) ((m_ini P pr τ).2.2.2 935 0) ((m_ini P pr τ).2.2.1 936 0)).1 = 0 := q1.symm.trans (e1.symm.trans h)
  have i9 : ∀ F, F < 935 → (m_ini P pr τ).2.2.2 F = τ.2.2.2 F := fun F z => by
    unfold m_ini
    rw [ini0_B, m_cp_F P F τ (by omega)]
  have i1 : (m_ini P pr τ).1 914 0 = τ.1 914 0 := by
    have : (m_ini P pr τ).1 914 0 = (m_cp P 144 τ).1 914 0 := ini0_914
    rw [this, m_cp_N]
  have i7 : ∀ F, F = 907 ∨ F = 909 → (m_ini P pr τ).2.2.1 F = τ.2.2.1 F := fun F z => by
    have : (m_ini P pr τ).2.2.1 F = (m_cp P 144 τ).2.2.1 F := ini0_A z
    rw [this, m_cp_A]
  have hls : ∀ k, LSp (m_ini P pr τ) k = LSp τ k := fun k => by
    unfold LSp
    rw [i9 911 (by decide), i9 906 (by decide), i1, i7 907 (Or.inl rfl), i7 909 (Or.inr rfl)]
  have i4 : ∀ k, k < 4 → (m_ini P pr τ).2.2.1 936 0 k = 0 := fun k hk => ini0_936 (pr := pr) (X := m_cp P 144 τ) hk
  have main := fd1_ab (P := P) (fr := fr) (c := R.2) (cl := fun i => (m_ini P pr τ).2.2.2 916 0 (144 * P + i)) R.1 (m_ini P pr τ) (fun i hi => rfl) hb hk (by rw [i1]; exact h16) hz
  rw [← q4, ← e2.2.2.1 936 (by decide) (by decide) (by decide)] at main
  unfold m_runs1 m_runs0
  rw [d1]
  have hd : ∀ k, LSp (m_rl1 P fr 2000 1 0 (m_ini P pr τ)).2 k = LSp (fdG (m_step1 P fr) R.2 R.1 (m_ini P pr τ)).2 k := fun k => by
    unfold LSp
    rw [d2.1, d2.2.2.2, d2.2.2.1 907 (by decide) (by decide) (by decide), d2.2.2.1 909 (by decide) (by decide) (by decide)]
  rcases main with ⟨z1, z2⟩ | ⟨z1, k, z2, z3⟩
  · refine Or.inl ⟨z1, fun k hk4 => ?_⟩
    have := z2 k hk4
    rw [hls, i4 k hk4] at this
    rw [hd]
    exact this
  · refine Or.inr ⟨z1, k, z2, ?_⟩
    rw [hls, i4 k z2] at z3
    exact z3
