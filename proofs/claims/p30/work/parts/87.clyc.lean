/-! the steps stay within the machine, and are no more than 6600; the class begins -/
def BT (T : List Sp) : Prop := ∀ s, s ∈ T → s.1 0 < 12 ∧ s.1 1 < 12 ∧ s.1 2 < 10
theorem bt_p {p : Nat → Nat} {mo ki : Int32} (h : ∀ b, b < 3 → p b ≤ m_lim b) : ((p, mo, ki) : Sp).1 0 < 12 ∧ ((p, mo, ki) : Sp).1 1 < 12 ∧ ((p, mo, ki) : Sp).1 2 < 10 := ⟨Nat.lt_succ_of_le (h 0 (by decide)), Nat.lt_succ_of_le (h 1 (by decide)), Nat.lt_succ_of_le (h 2 (by decide))⟩
theorem mv_bd {a to : Nat} {mo ki : Int32} (ha : a < 3) (hto : to ≤ m_lim a) : ∀ (f : Nat) (p : Nat → Nat), m_dist (p a) to = f → (∀ b, b < 3 → p b ≤ m_lim b) → BT (mvT a to mo ki f p) ∧ (mvT a to mo ki f p).length = f ∧ ∀ b, b < 3 → mvE a to f p b ≤ m_lim b
  | 0, p, _, hp => ⟨fun s hs => absurd hs (List.not_mem_nil), rfl, hp⟩
  | f + 1, p, hd, hp => by
    have hne : ¬ p a = to := fun z => by rw [z] at hd; unfold m_dist at hd; omega
    have hnd := nx_dist hne
    have hp1 : ∀ b, b < 3 → up1 p a (m_nx (p a) to) b ≤ m_lim b := fun b hb => by
      by_cases e : b = a
      · rw [e, up1_s]; exact nx_lim (hp a ha) hto hne
      · rw [up1_n e]; exact hp b hb
    obtain ⟨q1, q2, q3⟩ := mv_bd (mo := mo) (ki := ki) ha hto f (up1 p a (m_nx (p a) to)) (by rw [up1_s]; omega) hp1
    refine ⟨fun s hs => ?_, ?_, q3⟩
    · unfold mvT at hs
      rcases List.mem_cons.mp hs with rfl | hs
      · exact bt_p hp1
      · exact q1 s hs
    · show (mvT a to mo ki f (up1 p a (m_nx (p a) to))).length + 1 = f + 1
      rw [q2]
theorem bt_app {T T' : List Sp} (h : BT T) (h' : BT T') : BT (T ++ T') := fun s hs => (List.mem_append.mp hs).elim (h s) (h' s)
theorem bt_nil : BT [] := fun _ hs => absurd hs (List.not_mem_nil)
theorem tr_bd {B : Nat → Int32} {S : Nat → Nat} : ∀ (f d many : Nat) (P N p : Nat → Nat) (mo me ki : Int32), many ≤ 600 → (∀ b, b < 3 → p b ≤ m_lim b) → BT (trT B S f d many P N p mo me ki).1 ∧ (trT B S f d many P N p mo me ki).1.length ≤ 11 * (600 - many)
  | 0, _, _, _, _, _, _, _, _, _, _ => ⟨bt_nil, Nat.zero_le _⟩
  | f + 1, d, many, P, N, p, mo, me, ki, hm, hp => by
    by_cases c0 : d = 0
    · rw [tr_0 c0]
      exact ⟨bt_nil, Nat.zero_le _⟩
    by_cases c1 : N (d - 1) = S (P (d - 1))
    · rw [tr_p c0 c1]
      exact tr_bd f (d - 1) many P N p mo me ki hm hp
    by_cases c2 : many = 600
    · rw [tr_4 c0 c1 c2]
      exact ⟨bt_nil, Nat.zero_le _⟩
    by_cases c3 : bW B P N d = nI 6
    · rw [tr_c c0 c1 c2 c3]
      obtain ⟨q1, q2⟩ := tr_bd (B := B) (S := S) f (d + 1) (many + 1) (up1 P d (tn (bV B P N d))) (up1 (up1 N (d - 1) (N (d - 1) + 1)) d 0) p mo me ki (by omega) hp
      exact ⟨q1, by omega⟩
    by_cases c4 : nI 2 ≤ bW B P N d ∧ bW B P N d ≤ nI 4
    · have ha := (wm2 c4).2.1
      generalize ha9 : tn (bW B P N d) - 2 = a at ha
      generalize ht9 : bT a (bV B P N d) me p = t
      by_cases c5 : ix t (m_lim a + 1)
      · rw [tr_m c0 c1 c2 c3 c4 ha9 ht9 c5]
        have hto : tn t ≤ m_lim a := Nat.le_of_lt_succ (ix_lt c5)
        obtain ⟨q1, q2, q3⟩ := mv_bd (mo := mo) (ki := ki) ha hto (m_dist (p a) (tn t)) p rfl hp
        obtain ⟨r1, r2⟩ := tr_bd (B := B) (S := S) f d (many + 1) P (up1 N (d - 1) (N (d - 1) + 1)) (mvE a (tn t) (m_dist (p a) (tn t)) p) mo me ki (by omega) q3
        refine ⟨bt_app q1 r1, ?_⟩
        have h3 : m_lim a ≤ 11 := by unfold m_lim; split <;> decide
        have h4 : m_dist (p a) (tn t) ≤ 11 := by
          have := hp a ha
          unfold m_dist; omega
        show (_ ++ _ : List Sp).length ≤ _
        rw [List.length_append, q2]
        omega
      · rw [tr_t c0 c1 c2 c3 c4 ha9 ht9 c5]
        exact ⟨bt_nil, Nat.zero_le _⟩
    by_cases c5 : bW B P N d = nI 5 → p 2 = 9
    · rw [tr_s c0 c1 c2 c3 c4 c5]
      obtain ⟨q1, q2⟩ := tr_bd (B := B) (S := S) f d (many + 1) P (up1 N (d - 1) (N (d - 1) + 1)) p (if ¬ bW B P N d = 0 then mo else bV B P N d) (if ¬ bW B P N d = nI 1 then me else bV B P N d) (if ¬ bW B P N d = nI 5 then ki else bV B P N d) (by omega) hp
      exact ⟨q1, by omega⟩
    · have c6 : bW B P N d = nI 5 := Classical.byContradiction (fun z => c5 (fun y => absurd y z))
      rw [tr_2 c0 c1 c2 c6 (fun z => c5 (fun _ => z))]
      exact ⟨bt_nil, Nat.zero_le _⟩
theorem TR_bd {B : Nat → Int32} {S : Nat → Nat} {pr : Nat} : BT (TR B S pr).1 ∧ (TR B S pr).1.length ≤ 6600 := by
  refine tr_bd (B := B) (S := S) 2000 1 0 (fun _ => pr) (fun _ => 0) pAt0 (nI 0) (nI 0) (-1) (by decide) (fun b hb => ?_)
  rcases (by omega : b = 0 ∨ b = 1 ∨ b = 2) with rfl | rfl | rfl <;> decide
/-- the programs of the two sides -/
def GPs (B : Nat → Int32) (S : Nat → Nat) (σ : St) : Prop := (∀ i, i < σ.1 1002 6 → σ.1 402 i = S i ∧ ∀ j, j < S i → σ.2.2.2 400 i j = B (60 * i + 2 * j) ∧ σ.2.2.2 401 i j = B (60 * i + 2 * j + 1) ∧ isB (nI i) (B (60 * i + 2 * j)) (B (60 * i + 2 * j + 1))) ∧ (∀ i, i < σ.1 1002 6 → σ.2.2.1 1001 6 i = i) ∧ σ.1 1002 6 ≤ 6
theorem gps_of {σ τ : St} (h : GP σ τ) (hR : RI σ) (hC : RC σ) : GPs (τ.2.2.2 902 0) (τ.2.2.1 903 0) σ := by
  refine ⟨fun i hi => ?_, hR 6 (by decide) (by decide) (by decide), hC.2.2.2.2.2.2⟩
  obtain ⟨q1, q2⟩ := h.1 i hi
  refine ⟨q1, fun j hj => ?_⟩
  obtain ⟨r1, r2, r3⟩ := q2 j (by omega)
  exact ⟨r1, r2, by rw [← r1, ← r2]; exact r3⟩
theorem gps_fb {B : Nat → Int32} {S : Nat → Nat} {σ σ' : St} (h : GPs B S σ) (hF : FB σ σ') : GPs B S σ' := by
  obtain ⟨h1, h2, h3⟩ := h
  unfold GPs
  rw [(hF.1 1002 6 (by omega) (by omega) (by omega)).1, hF.2.1 1001 6 (by decide) (by decide) (by decide) (by omega)]
  refine ⟨fun i hi => ?_, h2, h3⟩
  rw [(hF.1 402 i (by omega) (by omega) (by omega)).1, hF.2.2 400 i (by decide), hF.2.2 401 i (by decide)]
  exact h1 i hi
theorem beg_tk {B : Nat → Int32} {S : Nat → Nat} {σ : St} {pr : Nat} (h : GPs B S σ) (hpr : pr < σ.1 1002 6) : TK B S (TR B S pr).1 (TR B S pr).2 (k_beg (nI pr) σ) := by
  obtain ⟨h1, h2, h3⟩ := h
  unfold k_beg
  generalize hσ1 : wI (wI (wI (wI (wN (wN (wN (wA (wA (wA (lclr 7 σ) 703 0 0 0) 703 0 1 0) 703 0 2 9) 704 0 0) 705 0 0) 706 0 0) 707 0 (nI 0)) 708 0 (nI 0)) 709 0 (-1)) 710 0 (nI 0) = σ1
  have w6 : σ1.1 706 0 = 0 := by rw [← hσ1]; simp [lclr, wA, wN, wI, up2, up1]
  have w4 : σ1.1 704 0 = 0 := by rw [← hσ1]; simp [lclr, wA, wN, wI, up2, up1]
  have w5 : σ1.1 705 0 = 0 := by rw [← hσ1]; simp [lclr, wA, wN, wI, up2, up1]
  have w7 : σ1.2.1 707 0 = nI 0 := by rw [← hσ1]; simp [lclr, wA, wN, wI, up2, up1]
  have w8 : σ1.2.1 708 0 = nI 0 := by rw [← hσ1]; simp [lclr, wA, wN, wI, up2, up1]
  have w9 : σ1.2.1 709 0 = (-1) := by rw [← hσ1]; simp [lclr, wA, wN, wI, up2, up1]
  have w10 : σ1.2.1 710 0 = nI 0 := by rw [← hσ1]; simp [lclr, wA, wN, wI, up2, up1]
  have w12 : σ1.1 1002 7 = 0 := by rw [← hσ1]; simp [lclr, wA, wN, wI, up2, up1]
  have w3 : ∀ a, a < 3 → σ1.2.2.1 703 0 a = pAt0 a ∧ pAt0 a ≤ gmx a := fun a ha => by
    rw [← hσ1]
    rcases (by omega : a = 0 ∨ a = 1 ∨ a = 2) with rfl | rfl | rfl <;> simp [lclr, wA, wN, wI, up2, up1, up3, gmx, pAt0]
  have x6 : σ1.1 1002 6 = σ.1 1002 6 := by rw [← hσ1]; rfl
  have x2 : σ1.1 402 = σ.1 402 := by rw [← hσ1]; rfl
  have xB : σ1.2.2.2 = σ.2.2.2 := by rw [← hσ1]; rfl
  have xA : σ1.2.2.1 1001 6 = σ.2.2.1 1001 6 := by rw [← hσ1]; rfl
  have e : k_ent (nI pr) σ1 = ladd 7 (σ1.2.2.1 1001 6 (tn (nI pr))) (wA σ1 702 0 (σ1.1 1002 7) 0) := if_pos ⟨(ix_nI (by omega)).mpr (by rw [x6]; exact hpr), by rw [w12]; decide⟩
  rw [e, tn_nI (by omega), xA, h2 pr hpr, w12]
  have y1 : (ladd 7 pr (wA σ1 702 0 0 0)).1 1002 7 = 1 := by
    rw [ladd_N]
    show σ1.1 1002 7 + 1 = 1
    rw [w12]
  have yA : (ladd 7 pr (wA σ1 702 0 0 0)).2.2.1 1001 7 = up1 (σ1.2.2.1 1001 7) 0 pr := by
    rw [ladd_A]
    show up1 (σ1.2.2.1 1001 7) (σ1.1 1002 7) pr = _
    rw [w12]
  have y2 : (ladd 7 pr (wA σ1 702 0 0 0)).2.2.1 702 0 = up1 (σ1.2.2.1 702 0) 0 0 := (((ladd_off 7 pr 0 (fun _ _ => 0) (wA σ1 702 0 0 0)).2.1 702 0 (fun z => by omega)).1).trans wA_s
  have hs : SimW B S (ladd 7 pr (wA σ1 702 0 0 0)) 1 0 (fun _ => pr) (fun _ => 0) pAt0 (nI 0) (nI 0) (-1) := by
    refine ⟨?_, ?_, ?_, y1, by decide, w6, by decide, fun j hj => ?_, w3, w7, w8, w9, w10⟩
    · show ∀ i, i < σ1.1 1002 6 → σ1.1 402 i = S i ∧ ∀ j, j < S i → σ1.2.2.2 400 i j = B (60 * i + 2 * j) ∧ σ1.2.2.2 401 i j = B (60 * i + 2 * j + 1) ∧ isB (nI i) (B (60 * i + 2 * j)) (B (60 * i + 2 * j + 1))
      rw [x6, x2, xB]
      exact h1
    · show ∀ i, i < σ1.1 1002 6 → σ1.2.2.1 1001 6 i = i
      rw [x6, xA]
      exact h2
    · show σ1.1 1002 6 ≤ 6
      rw [x6]
      exact h3
    · have : j = 0 := by omega
      subst this
      rw [yA, y2, up1_s, up1_s]
      refine ⟨rfl, rfl, ?_, Nat.zero_le _⟩
      show pr + 0 < σ1.1 1002 6
      rw [x6]
      exact hpr
  obtain ⟨m1, m2⟩ := mvT_0 (a := 0) (to := 0) (mo := nI 0) (ki := (-1)) (p := pAt0) rfl
  exact ⟨2000, 1, 0, fun _ => pr, fun _ => 0, pAt0, nI 0, nI 0, -1, 0, 0, hs, w4, w5, by decide, Nat.zero_le _, by decide, by rw [m1, m2]; rfl, by rw [m2]; rfl⟩
