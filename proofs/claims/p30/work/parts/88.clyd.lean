/-! a run over the steps, on a stock: what is wrong, how many steps, the stock, the cuts of each kind -/
def cel (s : Sp) : Nat := 12 * s.1 1 + s.1 0
abbrev AbR : Type := Int32 × Nat × (Nat → Int32) × (Nat → Nat)
abbrev bad (cl h : Nat → Int32) (s : Sp) : Prop := nI (s.1 2) < cl (cel s) ∨ (nI (s.1 2) < h (cel s) ∧ (s.2.1 = 0 ∨ s.2.2 = (-1)))
def ab (cl : Nat → Int32) (fr : Nat) (c : Int32) : List Sp → Nat → (Nat → Int32) → (Nat → Nat) → AbR
  | [], n, h, cu => (c, n, h, cu)
  | s :: T, n, h, cu => if n < fr then ab cl fr c T (n + 1) h cu else if bad cl h s then (nI 3, n, h, cu) else if nI (s.1 2) < h (cel s) then ab cl fr c T (n + 1) (up1 h (cel s) (nI (s.1 2))) (up1 cu (tn s.2.2) (cu (tn s.2.2) + 1)) else ab cl fr c T (n + 1) h cu
section ABs
variable {cl h : Nat → Int32} {fr n : Nat} {c : Int32} {s : Sp} {T : List Sp} {cu : Nat → Nat}
theorem ab_p (h1 : n < fr) : ab cl fr c (s :: T) n h cu = ab cl fr c T (n + 1) h cu := if_pos h1
theorem ab_b (h1 : ¬ n < fr) (h2 : bad cl h s) : ab cl fr c (s :: T) n h cu = (nI 3, n, h, cu) := (if_neg h1).trans (if_pos h2)
theorem ab_c (h1 : ¬ n < fr) (h2 : ¬ bad cl h s) (h3 : nI (s.1 2) < h (cel s)) : ab cl fr c (s :: T) n h cu = ab cl fr c T (n + 1) (up1 h (cel s) (nI (s.1 2))) (up1 cu (tn s.2.2) (cu (tn s.2.2) + 1)) := (if_neg h1).trans ((if_neg h2).trans (if_pos h3))
theorem ab_g (h1 : ¬ n < fr) (h2 : ¬ bad cl h s) (h3 : ¬ nI (s.1 2) < h (cel s)) : ab cl fr c (s :: T) n h cu = ab cl fr c T (n + 1) h cu := (if_neg h1).trans ((if_neg h2).trans (if_neg h3))
end ABs
theorem cel_lt {s : Sp} (h : s.1 0 < 12 ∧ s.1 1 < 12 ∧ s.1 2 < 10) : cel s < 144 := by unfold cel; omega
theorem bt_hd {s : Sp} {T : List Sp} (h : BT (s :: T)) : s.1 0 < 12 ∧ s.1 1 < 12 ∧ s.1 2 < 10 := h s (List.mem_cons_self)
theorem bt_tl {s : Sp} {T : List Sp} (h : BT (s :: T)) : BT T := fun x hx => h x (List.mem_cons_of_mem _ hx)
/-- only the 144 cells count -/
theorem ab_cong {fr : Nat} {c : Int32} {cl cl' : Nat → Int32} (hc : ∀ i, i < 144 → cl i = cl' i) : ∀ (T : List Sp) (n : Nat) (h h' : Nat → Int32) (cu : Nat → Nat), BT T → (∀ i, i < 144 → h i = h' i) → (ab cl fr c T n h cu).1 = (ab cl' fr c T n h' cu).1 ∧ (ab cl fr c T n h cu).2.1 = (ab cl' fr c T n h' cu).2.1 ∧ (∀ i, i < 144 → (ab cl fr c T n h cu).2.2.1 i = (ab cl' fr c T n h' cu).2.2.1 i) ∧ (ab cl fr c T n h cu).2.2.2 = (ab cl' fr c T n h' cu).2.2.2
  | [], _, _, _, _, _, hh => ⟨rfl, rfl, hh, rfl⟩
  | s :: T, n, h, h', cu, hb, hh => by
    have hs := cel_lt (bt_hd hb)
    have hb1 := bt_tl hb
    have e1 := hc _ hs
    have e2 := hh _ hs
    by_cases c1 : n < fr
    · rw [ab_p c1, ab_p c1]
      exact ab_cong hc T (n + 1) h h' cu hb1 hh
    · have eb : bad cl h s ↔ bad cl' h' s := by
        unfold bad
        rw [e1, e2]
      by_cases c2 : bad cl h s
      · rw [ab_b c1 c2, ab_b c1 (eb.mp c2)]
        exact ⟨rfl, rfl, hh, rfl⟩
      · have c2' : ¬ bad cl' h' s := fun z => c2 (eb.mpr z)
        by_cases c3 : nI (s.1 2) < h (cel s)
        · rw [ab_c c1 c2 c3, ab_c c1 c2' (by rw [← e2]; exact c3)]
          refine ab_cong hc T (n + 1) _ _ _ hb1 (fun i hi => ?_)
          by_cases e : i = cel s
          · rw [e, up1_s, up1_s]
          · rw [up1_n e, up1_n e]
            exact hh i hi
        · rw [ab_g c1 c2 c3, ab_g c1 c2' (by rw [← e2]; exact c3)]
          exact ab_cong hc T (n + 1) h h' cu hb1 hh
theorem ab_mono {fr : Nat} {c : Int32} {cl : Nat → Int32} {k : Nat} : ∀ (T : List Sp) (n : Nat) (h : Nat → Int32) (cu : Nat → Nat), cu k ≤ (ab cl fr c T n h cu).2.2.2 k
  | [], _, _, _ => Nat.le_refl _
  | s :: T, n, h, cu => by
    by_cases c1 : n < fr
    · rw [ab_p c1]
      exact ab_mono T (n + 1) h cu
    · by_cases c2 : bad cl h s
      · rw [ab_b c1 c2]
        exact Nat.le_refl _
      · by_cases c3 : nI (s.1 2) < h (cel s)
        · rw [ab_c c1 c2 c3]
          refine Nat.le_trans ?_ (ab_mono T (n + 1) _ _)
          by_cases e : k = tn s.2.2
          · rw [e, up1_s]; exact Nat.le_succ _
          · rw [up1_n e]; exact Nat.le_refl _
        · rw [ab_g c1 c2 c3]
          exact ab_mono T (n + 1) h cu
theorem ab_n {fr : Nat} {c : Int32} {cl : Nat → Int32} : ∀ (T : List Sp) (n : Nat) (h : Nat → Int32) (cu : Nat → Nat), (ab cl fr c T n h cu).2.1 ≤ n + T.length ∧ ((ab cl fr c T n h cu).1 = 0 → (ab cl fr c T n h cu).2.1 = n + T.length)
  | [], _, _, _ => ⟨Nat.le_refl _, fun _ => rfl⟩
  | s :: T, n, h, cu => by
    have e : n + (s :: T).length = n + 1 + T.length := by
      rw [List.length_cons]; omega
    rw [e]
    by_cases c1 : n < fr
    · rw [ab_p c1]
      exact ab_n T (n + 1) h cu
    · by_cases c2 : bad cl h s
      · rw [ab_b c1 c2]
        exact ⟨by show n ≤ _; omega, fun z => absurd (show nI 3 = 0 from z) (by decide)⟩
      · by_cases c3 : nI (s.1 2) < h (cel s)
        · rw [ab_c c1 c2 c3]
          exact ab_n T (n + 1) _ _
        · rw [ab_g c1 c2 c3]
          exact ab_n T (n + 1) h cu
/-- behind the steps that were gone it doesn't matter how many there were -/
theorem ab_fr {fr fr' : Nat} {c : Int32} {cl : Nat → Int32} : ∀ (T : List Sp) (n : Nat) (h : Nat → Int32) (cu : Nat → Nat), fr ≤ n → fr' ≤ n → ab cl fr c T n h cu = ab cl fr' c T n h cu
  | [], _, _, _, _, _ => rfl
  | s :: T, n, h, cu, h1, h2 => by
    by_cases c2 : bad cl h s
    · rw [ab_b (by omega) c2, ab_b (by omega) c2]
    · by_cases c3 : nI (s.1 2) < h (cel s)
      · rw [ab_c (by omega) c2 c3, ab_c (by omega) c2 c3]
        exact ab_fr T (n + 1) _ _ (by omega) (by omega)
      · rw [ab_g (by omega) c2 c3, ab_g (by omega) c2 c3]
        exact ab_fr T (n + 1) h cu (by omega) (by omega)
/-- the code alone: the cuts counted so far don't matter -/
theorem ab_cu {fr : Nat} {c : Int32} {cl : Nat → Int32} : ∀ (T : List Sp) (n : Nat) (h : Nat → Int32) (cu cu' : Nat → Nat), (ab cl fr c T n h cu).1 = (ab cl fr c T n h cu').1
  | [], _, _, _, _ => rfl
  | s :: T, n, h, cu, cu' => by
    by_cases c1 : n < fr
    · rw [ab_p c1, ab_p c1]
      exact ab_cu T (n + 1) h cu cu'
    · by_cases c2 : bad cl h s
      · rw [ab_b c1 c2, ab_b c1 c2]
      · by_cases c3 : nI (s.1 2) < h (cel s)
        · rw [ab_c c1 c2 c3, ab_c c1 c2 c3]
          exact ab_cu T (n + 1) _ _ _
        · rw [ab_g c1 c2 c3, ab_g c1 c2 c3]
          exact ab_cu T (n + 1) h cu cu'
/-- what was planned is never wrong -/
def wr0 : WrT := fun B S st cl pr g => g ≤ (TR B S pr).1.length ∧ (ab cl g (TR B S pr).2 (TR B S pr).1 0 st (fun _ => 0)).1 = 0
/-! the reference without tools -/
theorem fd0_ab {P fr : Nat} {c : Int32} {cl : Nat → Int32} : ∀ (T : List Sp) (τ : St), (∀ i, i < 144 → τ.2.2.2 916 0 (144 * P + i) = cl i) → BT T → (fdG (m_step0 P fr) c T τ).1 = (ab cl fr c T (τ.1 943 0) (τ.2.2.2 935 0) (τ.2.2.1 936 0)).1 ∧ (fdG (m_step0 P fr) c T τ).2.1 943 0 = (ab cl fr c T (τ.1 943 0) (τ.2.2.2 935 0) (τ.2.2.1 936 0)).2.1 ∧ (fdG (m_step0 P fr) c T τ).2.2.2.2 935 0 = (ab cl fr c T (τ.1 943 0) (τ.2.2.2 935 0) (τ.2.2.1 936 0)).2.2.1 ∧ (fdG (m_step0 P fr) c T τ).2.2.2.1 936 0 = (ab cl fr c T (τ.1 943 0) (τ.2.2.2 935 0) (τ.2.2.1 936 0)).2.2.2
  | [], _, _, _ => ⟨rfl, rfl, rfl, rfl⟩
  | s :: T, τ, hc, hb => by
    have hs := cel_lt (bt_hd hb)
    have hb1 := bt_tl hb
    have e7 : (put s τ).2.2.1 937 0 = s.1 := put_1
    have e0 : (put s τ).2.1 940 0 = s.2.1 := put_2
    have e2 : (put s τ).2.1 942 0 = s.2.2 := put_3
    have v1 : (put s τ).1 = τ.1 := put_V.1
    have v4 : (put s τ).2.2.2 = τ.2.2.2 := put_V.2.2.2
    have v6 : (put s τ).2.2.1 936 = τ.2.2.1 936 := put_V.2.2.1 936 (by decide) (by decide) (by decide)
    have e3 := hc _ hs
    unfold cel at e3
    have hst : m_step0 P fr (put s τ) = if fr ≤ τ.1 943 0 then (if nI (s.1 2) < cl (cel s) then (nI 3, put s τ) else (if ¬ nI (s.1 2) < τ.2.2.2 935 0 (cel s) then (nI 0, wN (put s τ) 943 0 (τ.1 943 0 + 1)) else (if s.2.1 = 0 then (nI 3, put s τ) else (if ¬ s.2.2 = (-1) then (nI 0, wN (wB (wA (put s τ) 936 0 (tn s.2.2) (τ.2.2.1 936 0 (tn s.2.2) + 1)) 935 0 (cel s) (nI (s.1 2))) 943 0 (τ.1 943 0 + 1)) else (nI 3, put s τ))))) else (nI 0, wN (put s τ) 943 0 (τ.1 943 0 + 1)) := by
      unfold m_step0
      rw [e7, e0, e2, v1, v4, v6, e3]
      rfl
    unfold fdG
    rw [hst]
    by_cases c1 : fr ≤ τ.1 943 0
    · rw [if_pos c1]
      by_cases c2 : nI (s.1 2) < cl (cel s)
      · rw [if_pos c2, if_neg (show ¬ nI 3 = 0 from by decide), ab_b (by omega) (Or.inl c2)]
        exact ⟨rfl, by show (put s τ).1 943 0 = _; rw [v1], by show (put s τ).2.2.2 935 0 = _; rw [v4], by show (put s τ).2.2.1 936 0 = _; rw [v6]⟩
      · rw [if_neg c2]
        by_cases c3 : nI (s.1 2) < τ.2.2.2 935 0 (cel s)
        · rw [if_neg (show ¬ ¬ nI (s.1 2) < τ.2.2.2 935 0 (cel s) from fun z => z c3)]
          by_cases c4 : s.2.1 = 0
          · rw [if_pos c4, if_neg (show ¬ nI 3 = 0 from by decide), ab_b (by omega) (Or.inr ⟨c3, Or.inl c4⟩)]
            exact ⟨rfl, by show (put s τ).1 943 0 = _; rw [v1], by show (put s τ).2.2.2 935 0 = _; rw [v4], by show (put s τ).2.2.1 936 0 = _; rw [v6]⟩
          · rw [if_neg c4]
            by_cases c5 : s.2.2 = (-1)
            · rw [if_neg (show ¬ ¬ s.2.2 = (-1) from fun z => z c5), if_neg (show ¬ nI 3 = 0 from by decide), ab_b (by omega) (Or.inr ⟨c3, Or.inr c5⟩)]
              exact ⟨rfl, by show (put s τ).1 943 0 = _; rw [v1], by show (put s τ).2.2.2 935 0 = _; rw [v4], by show (put s τ).2.2.1 936 0 = _; rw [v6]⟩
            · rw [if_pos c5, if_pos (show nI 0 = 0 from rfl)]
              have hnb : ¬ bad cl (τ.2.2.2 935 0) s := fun z => z.elim c2 (fun y => y.2.elim c4 c5)
              rw [ab_c (by omega) hnb c3]
              have g1 : (wN (wB (wA (put s τ) 936 0 (tn s.2.2) (τ.2.2.1 936 0 (tn s.2.2) + 1)) 935 0 (cel s) (nI (s.1 2))) 943 0 (τ.1 943 0 + 1)).1 943 0 = τ.1 943 0 + 1 := wN_sv
              have g2 : (wN (wB (wA (put s τ) 936 0 (tn s.2.2) (τ.2.2.1 936 0 (tn s.2.2) + 1)) 935 0 (cel s) (nI (s.1 2))) 943 0 (τ.1 943 0 + 1)).2.2.2 935 0 = up1 (τ.2.2.2 935 0) (cel s) (nI (s.1 2)) := by
                show up3 (put s τ).2.2.2 935 0 (cel s) (nI (s.1 2)) 935 0 = _
                rw [up3_s, v4]
              have g3 : (wN (wB (wA (put s τ) 936 0 (tn s.2.2) (τ.2.2.1 936 0 (tn s.2.2) + 1)) 935 0 (cel s) (nI (s.1 2))) 943 0 (τ.1 943 0 + 1)).2.2.1 936 0 = up1 (τ.2.2.1 936 0) (tn s.2.2) (τ.2.2.1 936 0 (tn s.2.2) + 1) := by
                show up3 (put s τ).2.2.1 936 0 (tn s.2.2) _ 936 0 = _
                rw [up3_s, v6]
              have g4 : (wN (wB (wA (put s τ) 936 0 (tn s.2.2) (τ.2.2.1 936 0 (tn s.2.2) + 1)) 935 0 (cel s) (nI (s.1 2))) 943 0 (τ.1 943 0 + 1)).2.2.2 916 0 = τ.2.2.2 916 0 := by
                show up3 (put s τ).2.2.2 935 0 (cel s) (nI (s.1 2)) 916 0 = _
                rw [up3_n (fun z => absurd z.1 (by decide)), v4]
              have := fd0_ab (P := P) (fr := fr) (c := c) (cl := cl) T (wN (wB (wA (put s τ) 936 0 (tn s.2.2) (τ.2.2.1 936 0 (tn s.2.2) + 1)) 935 0 (cel s) (nI (s.1 2))) 943 0 (τ.1 943 0 + 1)) (by rw [g4]; exact hc) hb1
              rw [g1, g2, g3] at this
              exact this
        · rw [if_pos c3, if_pos (show nI 0 = 0 from rfl)]
          have hnb : ¬ bad cl (τ.2.2.2 935 0) s := fun z => z.elim c2 (fun y => c3 y.1)
          rw [ab_g (by omega) hnb c3]
          have g1 : (wN (put s τ) 943 0 (τ.1 943 0 + 1)).1 943 0 = τ.1 943 0 + 1 := wN_sv
          have g2 : (wN (put s τ) 943 0 (τ.1 943 0 + 1)).2.2.2 = τ.2.2.2 := v4
          have g3 : (wN (put s τ) 943 0 (τ.1 943 0 + 1)).2.2.1 936 = τ.2.2.1 936 := v6
          have := fd0_ab (P := P) (fr := fr) (c := c) (cl := cl) T (wN (put s τ) 943 0 (τ.1 943 0 + 1)) (by rw [g2]; exact hc) hb1
          rw [g1, g2, g3] at this
          exact this
    · rw [if_neg c1, if_pos (show nI 0 = 0 from rfl), ab_p (by omega)]
      have g1 : (wN (put s τ) 943 0 (τ.1 943 0 + 1)).1 943 0 = τ.1 943 0 + 1 := wN_sv
      have g2 : (wN (put s τ) 943 0 (τ.1 943 0 + 1)).2.2.2 = τ.2.2.2 := v4
      have g3 : (wN (put s τ) 943 0 (τ.1 943 0 + 1)).2.2.1 936 = τ.2.2.1 936 := v6
      have := fd0_ab (P := P) (fr := fr) (c := c) (cl := cl) T (wN (put s τ) 943 0 (τ.1 943 0 + 1)) (by rw [g2]; exact hc) hb1
      rw [g1, g2, g3] at this
      exact this
