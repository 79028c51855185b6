/-! THE WAY OF THE SPINDLE: the steps of a program, whatever stands below; the reference goes it -/
abbrev Sp : Type := (Nat → Nat) × Int32 × Int32
def mvT (a to : Nat) (mo ki : Int32) : Nat → (Nat → Nat) → List Sp
  | 0, _ => []
  | f + 1, p => (up1 p a (m_nx (p a) to), mo, ki) :: mvT a to mo ki f (up1 p a (m_nx (p a) to))
def mvE (a to : Nat) : Nat → (Nat → Nat) → Nat → Nat
  | 0, p => p
  | f + 1, p => mvE a to f (up1 p a (m_nx (p a) to))
def bW (B : Nat → Int32) (P N : Nat → Nat) (d : Nat) : Int32 := B (60 * P (d - 1) + 2 * N (d - 1))
def bV (B : Nat → Int32) (P N : Nat → Nat) (d : Nat) : Int32 := B (60 * P (d - 1) + 2 * N (d - 1) + 1)
def bT (a : Nat) (v me : Int32) (p : Nat → Nat) : Int32 := if ¬ me = 0 then nI (p a) + v else v
def trT (B : Nat → Int32) (S : Nat → Nat) : Nat → Nat → Nat → (Nat → Nat) → (Nat → Nat) → (Nat → Nat) → Int32 → Int32 → Int32 → List Sp × Int32
  | 0, _, _, _, _, _, _, _, _ => ([], nI 0)
  | f + 1, d, many, P, N, p, mo, me, ki =>
    if d = 0 then ([], nI 0) else if N (d - 1) = S (P (d - 1)) then trT B S f (d - 1) many P N p mo me ki
    else if many = 600 then ([], nI 4)
    else if bW B P N d = nI 6 then trT B S f (d + 1) (many + 1) (up1 P d (tn (bV B P N d))) (up1 (up1 N (d - 1) (N (d - 1) + 1)) d 0) p mo me ki
    else if nI 2 ≤ bW B P N d ∧ bW B P N d ≤ nI 4 then
      (if ix (bT (tn (bW B P N d) - 2) (bV B P N d) me p) (m_lim (tn (bW B P N d) - 2) + 1) then
        (mvT (tn (bW B P N d) - 2) (tn (bT (tn (bW B P N d) - 2) (bV B P N d) me p)) mo ki (m_dist (p (tn (bW B P N d) - 2)) (tn (bT (tn (bW B P N d) - 2) (bV B P N d) me p))) p ++ (trT B S f d (many + 1) P (up1 N (d - 1) (N (d - 1) + 1)) (mvE (tn (bW B P N d) - 2) (tn (bT (tn (bW B P N d) - 2) (bV B P N d) me p)) (m_dist (p (tn (bW B P N d) - 2)) (tn (bT (tn (bW B P N d) - 2) (bV B P N d) me p))) p) mo me ki).1, (trT B S f d (many + 1) P (up1 N (d - 1) (N (d - 1) + 1)) (mvE (tn (bW B P N d) - 2) (tn (bT (tn (bW B P N d) - 2) (bV B P N d) me p)) (m_dist (p (tn (bW B P N d) - 2)) (tn (bT (tn (bW B P N d) - 2) (bV B P N d) me p))) p) mo me ki).2)
      else ([], nI 1))
    else if ¬ bW B P N d = nI 5 then trT B S f d (many + 1) P (up1 N (d - 1) (N (d - 1) + 1)) p (if ¬ bW B P N d = 0 then mo else bV B P N d) (if ¬ bW B P N d = nI 1 then me else bV B P N d) (if ¬ bW B P N d = nI 5 then ki else bV B P N d)
    else if p 2 = 9 then trT B S f d (many + 1) P (up1 N (d - 1) (N (d - 1) + 1)) p (if ¬ bW B P N d = 0 then mo else bV B P N d) (if ¬ bW B P N d = nI 1 then me else bV B P N d) (if ¬ bW B P N d = nI 5 then ki else bV B P N d)
    else ([], nI 2)
/-- all but the walk's own fields is the same -/
def EqV (τ τ' : St) : Prop := τ.1 = τ'.1 ∧ (∀ F, F ≠ 940 → F ≠ 941 → F ≠ 942 → τ.2.1 F = τ'.2.1 F) ∧ (∀ F, F ≠ 937 → F ≠ 938 → F ≠ 939 → τ.2.2.1 F = τ'.2.2.1 F) ∧ τ.2.2.2 = τ'.2.2.2
theorem EqV.rf {τ : St} : EqV τ τ := ⟨rfl, fun _ _ _ _ => rfl, fun _ _ _ _ => rfl, rfl⟩
theorem EqV.sy {τ τ' : St} (h : EqV τ τ') : EqV τ' τ := ⟨h.1.symm, fun F a b c => (h.2.1 F a b c).symm, fun F a b c => (h.2.2.1 F a b c).symm, h.2.2.2.symm⟩
theorem EqV.tr {τ τ' τ9 : St} (h : EqV τ τ') (g : EqV τ' τ9) : EqV τ τ9 := ⟨h.1.trans g.1, fun F a b c => (h.2.1 F a b c).trans (g.2.1 F a b c), fun F a b c => (h.2.2.1 F a b c).trans (g.2.2.1 F a b c), h.2.2.2.trans g.2.2.2⟩
theorem EqV.wA1 {τ : St} {F k i v : Nat} (h : F = 937 ∨ F = 938 ∨ F = 939) : EqV (wA τ F k i v) τ := ⟨rfl, fun _ _ _ _ => rfl, fun G a b c => (by show up3 τ.2.2.1 F k i v G = _; unfold up3; rw [if_neg (by omega)]), rfl⟩
theorem EqV.wI1 {τ : St} {F k : Nat} {v : Int32} (h : F = 940 ∨ F = 941 ∨ F = 942) : EqV (wI τ F k v) τ := ⟨rfl, fun G a b c => (by show up2 τ.2.1 F k v G = _; unfold up2; rw [if_neg (by omega)]), fun _ _ _ _ => rfl, rfl⟩
/-- what a step's function is to keep -/
def KW9 (τ τ' : St) : Prop := τ'.2.1 = τ.2.1 ∧ τ'.2.2.1 937 = τ.2.2.1 937 ∧ τ'.2.2.1 938 = τ.2.2.1 938 ∧ τ'.2.2.1 939 = τ.2.2.1 939 ∧ τ'.2.2.1 903 = τ.2.2.1 903 ∧ τ'.2.2.2 902 = τ.2.2.2 902
def StG (g : St → Int32 × St) : Prop := (∀ τ τ', EqV τ τ' → (∀ b, b < 3 → τ.2.2.1 937 0 b = τ'.2.2.1 937 0 b) → τ.2.1 940 0 = τ'.2.1 940 0 → τ.2.1 942 0 = τ'.2.1 942 0 → (g τ).1 = (g τ').1 ∧ EqV (g τ).2 (g τ').2) ∧ ∀ τ, KW9 τ (g τ).2
def put (s : Sp) (τ : St) : St := wI (wI (wRA τ 937 0 s.1) 940 0 s.2.1) 942 0 s.2.2
theorem put_V {s : Sp} {τ : St} : EqV (put s τ) τ := EqV.tr (EqV.wI1 (by omega)) (EqV.tr (EqV.wI1 (by omega)) ⟨rfl, fun _ _ _ _ => rfl, fun G a b c => (by show up2 τ.2.2.1 937 0 s.1 G = _; unfold up2; rw [if_neg (by omega)]), rfl⟩)
theorem put_1 {s : Sp} {τ : St} : (put s τ).2.2.1 937 0 = s.1 := (by show up2 τ.2.2.1 937 0 s.1 937 0 = _; exact up2_s)
theorem put_2 {s : Sp} {τ : St} : (put s τ).2.1 940 0 = s.2.1 := (by show up2 (up2 τ.2.1 940 0 s.2.1) 942 0 s.2.2 940 0 = _; rw [up2_n (fun z => absurd z.1 (by decide)), up2_s])
theorem put_3 {s : Sp} {τ : St} : (put s τ).2.1 942 0 = s.2.2 := (by show up2 (up2 τ.2.1 940 0 s.2.1) 942 0 s.2.2 942 0 = _; exact up2_s)
def fdG (g : St → Int32 × St) (c : Int32) : List Sp → St → Int32 × St
  | [], τ => (c, τ)
  | s :: T, τ => if (g (put s τ)).1 = 0 then fdG g c T (g (put s τ)).2 else g (put s τ)
theorem fd_cong {g : St → Int32 × St} (hg : StG g) {c : Int32} : ∀ (T : List Sp) (τ τ' : St), EqV τ τ' → (fdG g c T τ).1 = (fdG g c T τ').1 ∧ EqV (fdG g c T τ).2 (fdG g c T τ').2
  | [], _, _, h => ⟨rfl, h⟩
  | s :: T, τ, τ', h => by
    obtain ⟨e1, e2⟩ := hg.1 (put s τ) (put s τ') (put_V.tr (h.tr put_V.sy)) (fun b _ => by rw [put_1, put_1]) (put_2.trans put_2.symm) (put_3.trans put_3.symm)
    unfold fdG
    rw [← e1]
    split
    · exact fd_cong hg T _ _ e2
    · exact ⟨e1, e2⟩
theorem fd_app {g : St → Int32 × St} {c : Int32} : ∀ (T T' : List Sp) (τ : St), fdG g c (T ++ T') τ = if (fdG g 0 T τ).1 = 0 then fdG g c T' (fdG g 0 T τ).2 else fdG g 0 T τ
  | [], T', τ => (if_pos rfl).symm
  | s :: T, T', τ => by
    show (if (g (put s τ)).1 = 0 then fdG g c (T ++ T') (g (put s τ)).2 else g (put s τ)) = _
    by_cases h : (g (put s τ)).1 = 0
    · have e : fdG g 0 (s :: T) τ = fdG g 0 T (g (put s τ)).2 := if_pos h
      rw [if_pos h, e, fd_app T T']
    · have e : fdG g 0 (s :: T) τ = g (put s τ) := if_neg h
      rw [if_neg h, e, if_neg h]
def mvG (g : St → Int32 × St) (a to : Nat) : Nat → St → Int32 × St
  | 0, τ => (nI 0, τ)
  | f + 1, τ => if (g (wA τ 937 0 a (m_nx (τ.2.2.1 937 0 a) to))).1 = 0 then mvG g a to f (g (wA τ 937 0 a (m_nx (τ.2.2.1 937 0 a) to))).2 else g (wA τ 937 0 a (m_nx (τ.2.2.1 937 0 a) to))
def blG (g : St → Int32 × St) (w v : Int32) (σ : St) : Int32 × St := if nI 2 ≤ w ∧ w ≤ nI 4 then (if ix (m_to (tn w - 2) v σ) (m_lim (tn w - 2) + 1) then mvG g (tn w - 2) (tn (m_to (tn w - 2) v σ)) (m_dist (σ.2.2.1 937 0 (tn w - 2)) (tn (m_to (tn w - 2) v σ))) σ else (nI 1, σ)) else m_sets w v σ
def rlG (g : St → Int32 × St) : Nat → Nat → Nat → St → Int32 × St
  | 0, _, _, σ => (nI 0, σ)
  | f + 1, d, many, σ => if d = 0 then (nI 0, σ) else if σ.2.2.1 939 0 (d - 1) = σ.2.2.1 903 0 (σ.2.2.1 938 0 (d - 1)) then rlG g f (d - 1) many σ
    else if many = 600 then (nI 4, σ) else if m_w d σ = nI 6 then rlG g f (d + 1) (many + 1) (m_call d (m_v d σ) σ)
    else if (blG g (m_w d σ) (m_v d σ) (m_adv d σ)).1 = 0 then rlG g f d (many + 1) (blG g (m_w d σ) (m_v d σ) (m_adv d σ)).2 else blG g (m_w d σ) (m_v d σ) (m_adv d σ)
theorem mv0_G (p fr a to : Nat) : ∀ (f : Nat) (σ : St), m_mv0 p fr a to f σ = mvG (m_step0 p fr) a to f σ
  | 0, _ => rfl
  | f + 1, σ => by unfold m_mv0 mvG; rw [mv0_G p fr a to f]
theorem mv1_G (p fr a to : Nat) : ∀ (f : Nat) (σ : St), m_mv1 p fr a to f σ = mvG (m_step1 p fr) a to f σ
  | 0, _ => rfl
  | f + 1, σ => by unfold m_mv1 mvG; rw [mv1_G p fr a to f]
theorem mv2_G (p fr a to : Nat) : ∀ (f : Nat) (σ : St), m_mv2 p fr a to f σ = mvG (m_step2 p fr) a to f σ
  | 0, _ => rfl
  | f + 1, σ => by unfold m_mv2 mvG; rw [mv2_G p fr a to f]
theorem bl0_G (p fr : Nat) (w v : Int32) (σ : St) : m_blk0 p fr w v σ = blG (m_step0 p fr) w v σ := by unfold m_blk0 m_moves0 blG; rw [mv0_G]
theorem bl1_G (p fr : Nat) (w v : Int32) (σ : St) : m_blk1 p fr w v σ = blG (m_step1 p fr) w v σ := by unfold m_blk1 m_moves1 blG; rw [mv1_G]
theorem bl2_G (p fr : Nat) (w v : Int32) (σ : St) : m_blk2 p fr w v σ = blG (m_step2 p fr) w v σ := by unfold m_blk2 m_moves2 blG; rw [mv2_G]
theorem rl0_G (p fr : Nat) : ∀ (f d many : Nat) (σ : St), m_rl0 p fr f d many σ = rlG (m_step0 p fr) f d many σ
  | 0, _, _, _ => rfl
  | f + 1, d, many, σ => by unfold m_rl0 rlG; simp only [rl0_G p fr f, bl0_G]
theorem rl1_G (p fr : Nat) : ∀ (f d many : Nat) (σ : St), m_rl1 p fr f d many σ = rlG (m_step1 p fr) f d many σ
  | 0, _, _, _ => rfl
  | f + 1, d, many, σ => by unfold m_rl1 rlG; simp only [rl1_G p fr f, bl1_G]
theorem rl2_G (p fr : Nat) : ∀ (f d many : Nat) (σ : St), m_rl2 p fr f d many σ = rlG (m_step2 p fr) f d many σ
  | 0, _, _, _ => rfl
  | f + 1, d, many, σ => by unfold m_rl2 rlG; simp only [rl2_G p fr f, bl2_G]
/-- moving along: as the steps say -/
theorem mv_fd {g : St → Int32 × St} (hg : StG g) {a to : Nat} {mo ki : Int32} : ∀ (f : Nat) (τ τ' : St) (p : Nat → Nat), a < 3 → EqV τ τ' → (∀ b, b < 3 → τ.2.2.1 937 0 b = p b) → τ.2.1 940 0 = mo → τ.2.1 942 0 = ki → (mvG g a to f τ).1 = (fdG g 0 (mvT a to mo ki f p) τ').1 ∧ EqV (mvG g a to f τ).2 (fdG g 0 (mvT a to mo ki f p) τ').2 ∧ (mvG g a to f τ).2.2.1 = τ.2.1 ∧ (mvG g a to f τ).2.2.2.1 938 = τ.2.2.1 938 ∧ (mvG g a to f τ).2.2.2.1 939 = τ.2.2.1 939 ∧ (mvG g a to f τ).2.2.2.1 903 = τ.2.2.1 903 ∧ (mvG g a to f τ).2.2.2.2 902 = τ.2.2.2 902 ∧ ((mvG g a to f τ).1 = 0 → ∀ b, b < 3 → (mvG g a to f τ).2.2.2.1 937 0 b = mvE a to f p b)
  | 0, _, _, _, _, h, hp, _, _ => ⟨rfl, h, rfl, rfl, rfl, rfl, rfl, fun _ => hp⟩
  | f + 1, τ, τ', p, ha, h, hp, h0, h2 => by
    have hV : EqV (wA τ 937 0 a (m_nx (τ.2.2.1 937 0 a) to)) τ := EqV.wA1 (Or.inl rfl)
    have h7 : ∀ b, b < 3 → (wA τ 937 0 a (m_nx (τ.2.2.1 937 0 a) to)).2.2.1 937 0 b = up1 p a (m_nx (p a) to) b := fun b hb => by
      rw [wA_s, hp a ha]
      by_cases e : b = a
      · rw [e, up1_s, up1_s]
      · rw [up1_n e, up1_n e]
        exact hp b hb
    have hA : ∀ F, F ≠ 937 → (wA τ 937 0 a (m_nx (τ.2.2.1 937 0 a) to)).2.2.1 F = τ.2.2.1 F := fun F z => by
      show up3 τ.2.2.1 937 0 a _ F = _
      unfold up3
      rw [if_neg z]
    have hI : (wA τ 937 0 a (m_nx (τ.2.2.1 937 0 a) to)).2.1 = τ.2.1 := rfl
    have hB : (wA τ 937 0 a (m_nx (τ.2.2.1 937 0 a) to)).2.2.2 = τ.2.2.2 := rfl
    unfold mvG mvT
    generalize wA τ 937 0 a (m_nx (τ.2.2.1 937 0 a) to) = τ1 at hV h7 hA hI hB ⊢
    have hs1 : ((up1 p a (m_nx (p a) to), mo, ki) : Sp).1 = up1 p a (m_nx (p a) to) := rfl
    have hs2 : ((up1 p a (m_nx (p a) to), mo, ki) : Sp).2.1 = mo := rfl
    have hs3 : ((up1 p a (m_nx (p a) to), mo, ki) : Sp).2.2 = ki := rfl
    generalize ((up1 p a (m_nx (p a) to), mo, ki) : Sp) = s at hs1 hs2 hs3 ⊢
    obtain ⟨e1, e2⟩ := hg.1 τ1 (put s τ') (hV.tr (h.tr put_V.sy)) (fun b hb => by rw [put_1, h7 b hb, hs1]) (by rw [put_2, hI, h0, hs2]) (by rw [put_3, hI, h2, hs3])
    obtain ⟨k1, k2, k3, k4, k5, k6⟩ := hg.2 τ1
    unfold fdG
    rw [← e1]
    by_cases c : (g τ1).1 = 0
    · rw [if_pos c, if_pos c]
      obtain ⟨q1, q2, q3, q4, q5, q6, q7, q8⟩ := mv_fd hg (mo := mo) (ki := ki) f (g τ1).2 (g (put s τ')).2 (up1 p a (m_nx (p a) to)) ha e2 (fun b hb => by rw [k2]; exact h7 b hb) (by rw [k1, hI]; exact h0) (by rw [k1, hI]; exact h2)
      exact ⟨q1, q2, by rw [q3, k1, hI], by rw [q4, k3, hA 938 (by decide)], by rw [q5, k4, hA 939 (by decide)], by rw [q6, k5, hA 903 (by decide)], by rw [q7, k6, hB], q8⟩
    · rw [if_neg c, if_neg c]
      exact ⟨e1, e2, by rw [k1, hI], by rw [k3, hA 938 (by decide)], by rw [k4, hA 939 (by decide)], by rw [k5, hA 903 (by decide)], by rw [k6, hB], fun z => absurd z c⟩
theorem rlG_s {g : St → Int32 × St} {f d many : Nat} {σ : St} : rlG g (f + 1) d many σ = if d = 0 then (nI 0, σ) else if σ.2.2.1 939 0 (d - 1) = σ.2.2.1 903 0 (σ.2.2.1 938 0 (d - 1)) then rlG g f (d - 1) many σ
    else if many = 600 then (nI 4, σ) else if m_w d σ = nI 6 then rlG g f (d + 1) (many + 1) (m_call d (m_v d σ) σ)
    else if (blG g (m_w d σ) (m_v d σ) (m_adv d σ)).1 = 0 then rlG g f d (many + 1) (blG g (m_w d σ) (m_v d σ) (m_adv d σ)).2 else blG g (m_w d σ) (m_v d σ) (m_adv d σ) := rfl
section TRs
variable {B : Nat → Int32} {S : Nat → Nat} {f d many : Nat} {P N p : Nat → Nat} {mo me ki : Int32}
theorem tr_0 (h : d = 0) : trT B S (f + 1) d many P N p mo me ki = ([], nI 0) := if_pos h
theorem tr_p (h : ¬ d = 0) (h1 : N (d - 1) = S (P (d - 1))) : trT B S (f + 1) d many P N p mo me ki = trT B S f (d - 1) many P N p mo me ki := (if_neg h).trans (if_pos h1)
theorem tr_4 (h : ¬ d = 0) (h1 : ¬ N (d - 1) = S (P (d - 1))) (h2 : many = 600) : trT B S (f + 1) d many P N p mo me ki = ([], nI 4) := (if_neg h).trans ((if_neg h1).trans (if_pos h2))
theorem tr_c (h : ¬ d = 0) (h1 : ¬ N (d - 1) = S (P (d - 1))) (h2 : ¬ many = 600) (h3 : bW B P N d = nI 6) : trT B S (f + 1) d many P N p mo me ki = trT B S f (d + 1) (many + 1) (up1 P d (tn (bV B P N d))) (up1 (up1 N (d - 1) (N (d - 1) + 1)) d 0) p mo me ki := (if_neg h).trans ((if_neg h1).trans ((if_neg h2).trans (if_pos h3)))
theorem tr_m (h : ¬ d = 0) (h1 : ¬ N (d - 1) = S (P (d - 1))) (h2 : ¬ many = 600) (h3 : ¬ bW B P N d = nI 6) (h4 : nI 2 ≤ bW B P N d ∧ bW B P N d ≤ nI 4) {a : Nat} (ha : tn (bW B P N d) - 2 = a) {t : Int32} (ht : bT a (bV B P N d) me p = t) (h5 : ix t (m_lim a + 1)) : trT B S (f + 1) d many P N p mo me ki = (mvT a (tn t) mo ki (m_dist (p a) (tn t)) p ++ (trT B S f d (many + 1) P (up1 N (d - 1) (N (d - 1) + 1)) (mvE a (tn t) (m_dist (p a) (tn t)) p) mo me ki).1, (trT B S f d (many + 1) P (up1 N (d - 1) (N (d - 1) + 1)) (mvE a (tn t) (m_dist (p a) (tn t)) p) mo me ki).2) := by
  subst ha
  subst ht
  exact (if_neg h).trans ((if_neg h1).trans ((if_neg h2).trans ((if_neg h3).trans ((if_pos h4).trans (if_pos h5)))))
theorem tr_t (h : ¬ d = 0) (h1 : ¬ N (d - 1) = S (P (d - 1))) (h2 : ¬ many = 600) (h3 : ¬ bW B P N d = nI 6) (h4 : nI 2 ≤ bW B P N d ∧ bW B P N d ≤ nI 4) {a : Nat} (ha : tn (bW B P N d) - 2 = a) {t : Int32} (ht : bT a (bV B P N d) me p = t) (h5 : ¬ ix t (m_lim a + 1)) : trT B S (f + 1) d many P N p mo me ki = ([], nI 1) := by
  subst ha
  subst ht
  exact (if_neg h).trans ((if_neg h1).trans ((if_neg h2).trans ((if_neg h3).trans ((if_pos h4).trans (if_neg h5)))))
theorem tr_s (h : ¬ d = 0) (h1 : ¬ N (d - 1) = S (P (d - 1))) (h2 : ¬ many = 600) (h3 : ¬ bW B P N d = nI 6) (h4 : ¬ (nI 2 ≤ bW B P N d ∧ bW B P N d ≤ nI 4)) (h5 : bW B P N d = nI 5 → p 2 = 9) : trT B S (f + 1) d many P N p mo me ki = trT B S f d (many + 1) P (up1 N (d - 1) (N (d - 1) + 1)) p (if ¬ bW B P N d = 0 then mo else bV B P N d) (if ¬ bW B P N d = nI 1 then me else bV B P N d) (if ¬ bW B P N d = nI 5 then ki else bV B P N d) := by
  refine (if_neg h).trans ((if_neg h1).trans ((if_neg h2).trans ((if_neg h3).trans ((if_neg h4).trans ?_))))
  by_cases c : bW B P N d = nI 5
  · exact (if_neg (fun z => z c)).trans (if_pos (h5 c))
  · exact if_pos c
theorem tr_2 (h : ¬ d = 0) (h1 : ¬ N (d - 1) = S (P (d - 1))) (h2 : ¬ many = 600) (h5 : bW B P N d = nI 5) (h6 : ¬ p 2 = 9) : trT B S (f + 1) d many P N p mo me ki = ([], nI 2) := by
  have h3 : ¬ bW B P N d = nI 6 := by rw [h5]; decide
  have h4 : ¬ (nI 2 ≤ bW B P N d ∧ bW B P N d ≤ nI 4) := by rw [h5]; decide
  exact (if_neg h).trans ((if_neg h1).trans ((if_neg h2).trans ((if_neg h3).trans ((if_neg h4).trans ((if_neg (fun z => z h5)).trans (if_neg h6))))))
end TRs
theorem wI3 {τ : St} {a b c : Int32} : (wI (wI (wI τ 940 0 a) 941 0 b) 942 0 c).2.1 940 0 = a ∧ (wI (wI (wI τ 940 0 a) 941 0 b) 942 0 c).2.1 941 0 = b ∧ (wI (wI (wI τ 940 0 a) 941 0 b) 942 0 c).2.1 942 0 = c := by
  show up2 (up2 (up2 τ.2.1 940 0 a) 941 0 b) 942 0 c 940 0 = a ∧ up2 (up2 (up2 τ.2.1 940 0 a) 941 0 b) 942 0 c 941 0 = b ∧ up2 (up2 (up2 τ.2.1 940 0 a) 941 0 b) 942 0 c 942 0 = c
  exact ⟨(up2_n (fun z => absurd z.1 (by decide))).trans ((up2_n (fun z => absurd z.1 (by decide))).trans up2_s), (up2_n (fun z => absurd z.1 (by decide))).trans up2_s, up2_s⟩
theorem rl_fd {g : St → Int32 × St} (hg : StG g) {B : Nat → Int32} {S : Nat → Nat} : ∀ (f d many : Nat) (τ τ' : St) (P N p : Nat → Nat) (mo me ki : Int32), EqV τ τ' → τ.2.2.2 902 0 = B → τ.2.2.1 903 0 = S → (∀ j, j < d → τ.2.2.1 938 0 j = P j ∧ τ.2.2.1 939 0 j = N j) → (∀ b, b < 3 → τ.2.2.1 937 0 b = p b) → τ.2.1 940 0 = mo → τ.2.1 941 0 = me → τ.2.1 942 0 = ki → (rlG g f d many τ).1 = (fdG g (trT B S f d many P N p mo me ki).2 (trT B S f d many P N p mo me ki).1 τ').1 ∧ EqV (rlG g f d many τ).2 (fdG g (trT B S f d many P N p mo me ki).2 (trT B S f d many P N p mo me ki).1 τ').2
  | 0, _, _, _, _, _, _, _, _, _, _, h, _, _, _, _, _, _, _ => ⟨rfl, h⟩
  | f + 1, d, many, τ, τ', P, N, p, mo, me, ki, h, hB, hS, hPN, hp, h0, h1, h2 => by
    by_cases c0 : d = 0
    · rw [rlG_s, tr_0 c0, if_pos c0]
      exact ⟨rfl, h⟩
    obtain ⟨hP, hN⟩ := hPN (d - 1) (by omega)
    have hw : m_w d τ = bW B P N d := by unfold m_w bW; rw [hB, hP, hN]
    have hv : m_v d τ = bV B P N d := by unfold m_v bV; rw [hB, hP, hN]
    rw [rlG_s, hw, hv, hN, hS, hP, if_neg c0]
    by_cases c1 : N (d - 1) = S (P (d - 1))
    · rw [tr_p c0 c1, if_pos c1]
      exact rl_fd hg f (d - 1) many τ τ' P N p mo me ki h hB hS (fun j hj => hPN j (by omega)) hp h0 h1 h2
    rw [if_neg c1]
    by_cases c2 : many = 600
    · rw [tr_4 c0 c1 c2, if_pos c2]
      exact ⟨rfl, h⟩
    rw [if_neg c2]
    have hadv : EqV (m_adv d τ) τ' := EqV.tr (EqV.wA1 (by omega)) h
    have d7 : ∀ b, b < 3 → (m_adv d τ).2.2.1 937 0 b = p b := fun b hb => by
      show up3 τ.2.2.1 939 0 (d - 1) (τ.2.2.1 939 0 (d - 1) + 1) 937 0 b = p b
      rw [up3_n (fun z => absurd z.1 (by decide))]; exact hp b hb
    have d8 : ∀ j, j < d → (m_adv d τ).2.2.1 938 0 j = P j := fun j hj => by
      show up3 τ.2.2.1 939 0 (d - 1) (τ.2.2.1 939 0 (d - 1) + 1) 938 0 j = P j
      rw [up3_n (fun z => absurd z.1 (by decide))]; exact (hPN j hj).1
    have d9 : ∀ j, j < d → (m_adv d τ).2.2.1 939 0 j = up1 N (d - 1) (N (d - 1) + 1) j := fun j hj => by
      show up3 τ.2.2.1 939 0 (d - 1) (τ.2.2.1 939 0 (d - 1) + 1) 939 0 j = _
      rw [up3_s, hN]
      by_cases e : j = d - 1
      · rw [e, up1_s, up1_s]
      · rw [up1_n e, up1_n e]
        exact (hPN j hj).2
    have d3 : (m_adv d τ).2.2.1 903 0 = S := by
      show up3 τ.2.2.1 939 0 (d - 1) (τ.2.2.1 939 0 (d - 1) + 1) 903 0 = S
      rw [up3_n (fun z => absurd z.1 (by decide))]; exact hS
    have d2 : (m_adv d τ).2.2.2 902 0 = B := hB
    have d0 : (m_adv d τ).2.1 = τ.2.1 := rfl
    generalize hw9 : bW B P N d = w at hw ⊢
    generalize hv9 : bV B P N d = v at hv ⊢
    by_cases c3 : w = nI 6
    · rw [tr_c c0 c1 c2 (hw9.trans c3), if_pos c3, hv9]
      refine rl_fd hg f (d + 1) (many + 1) (m_call d v τ) τ' _ _ _ _ _ _ ?_ ?_ ?_ (fun j hj => ⟨?_, ?_⟩) (fun b hb => ?_) h0 h1 h2
      · exact EqV.tr (EqV.wA1 (by omega)) (EqV.tr (EqV.wA1 (by omega)) hadv)
      · exact hB
      · show up3 (up3 (m_adv d τ).2.2.1 938 0 d (tn v)) 939 0 d 0 903 0 = S
        rw [up3_n (fun z => absurd z.1 (by decide)), up3_n (fun z => absurd z.1 (by decide)), d3]
      · show up3 (up3 (m_adv d τ).2.2.1 938 0 d (tn v)) 939 0 d 0 938 0 j = _
        rw [up3_n (fun z => absurd z.1 (by decide)), up3_s]
        by_cases e : j = d
        · rw [e, up1_s, up1_s]
        · rw [up1_n e, up1_n e]
          exact d8 j (by omega)
      · show up3 (up3 (m_adv d τ).2.2.1 938 0 d (tn v)) 939 0 d 0 939 0 j = _
        rw [up3_s, up3_n (fun z => absurd z.1 (by decide))]
        by_cases e : j = d
        · rw [e, up1_s, up1_s]
        · rw [up1_n e, up1_n e]
          exact d9 j (by omega)
      · show up3 (up3 (m_adv d τ).2.2.1 938 0 d (tn v)) 939 0 d 0 937 0 b = _
        rw [up3_n (fun z => absurd z.1 (by decide)), up3_n (fun z => absurd z.1 (by decide))]
        exact d7 b hb
    rw [if_neg c3]
    generalize m_adv d τ = τ1 at hadv d7 d8 d9 d3 d2 d0 ⊢
    unfold blG
    by_cases c4 : nI 2 ≤ w ∧ w ≤ nI 4
    · rw [if_pos c4]
      have ha3 := (wm2 c4).2.1
      have ht : m_to (tn w - 2) v τ1 = bT (tn w - 2) v me p := by
        unfold m_to bT
        rw [d0, h1, d7 _ ha3]
      rw [ht, d7 _ ha3]
      generalize ha : tn w - 2 = a at ha3
      have ha9 : tn (bW B P N d) - 2 = a := by rw [hw9]; exact ha
      generalize ht9 : bT a v me p = t
      have ht8 : bT a (bV B P N d) me p = t := by rw [hv9]; exact ht9
      by_cases c5 : ix t (m_lim a + 1)
      · rw [if_pos c5, tr_m c0 c1 c2 (by rw [hw9]; exact c3) (by rw [hw9]; exact c4) ha9 ht8 c5, fd_app]
        obtain ⟨q1, q2, q3, q4, q5, q6, q7, q8⟩ := mv_fd hg (mo := mo) (ki := ki) (a := a) (to := tn t) (m_dist (p a) (tn t)) τ1 τ' p ha3 hadv d7 (by rw [d0]; exact h0) (by rw [d0]; exact h2)
        by_cases c6 : (mvG g a (tn t) (m_dist (p a) (tn t)) τ1).1 = 0
        · rw [if_pos c6, if_pos (q1.symm.trans c6)]
          exact rl_fd hg f d (many + 1) _ _ _ _ _ _ _ _ q2 (by rw [q7]; exact d2) (by rw [q6]; exact d3) (fun j hj => ⟨by rw [q4]; exact d8 j hj, by rw [q5]; exact d9 j hj⟩) (q8 c6) (by rw [q3, d0]; exact h0) (by rw [q3, d0]; exact h1) (by rw [q3, d0]; exact h2)
        · rw [if_neg c6, if_neg (fun z => c6 (q1.trans z))]
          exact ⟨q1, q2⟩
      · rw [if_neg c5, tr_t c0 c1 c2 (by rw [hw9]; exact c3) (by rw [hw9]; exact c4) ha9 ht8 c5, if_neg (show ¬ nI 1 = 0 from by decide)]
        exact ⟨rfl, hadv⟩
    · rw [if_neg c4]
      have key : (p 2 = 9 ∨ ¬ w = nI 5) → (rlG g f d (many + 1) (wI (wI (wI τ1 940 0 (if ¬ w = 0 then τ1.2.1 940 0 else v)) 941 0 (if ¬ w = nI 1 then τ1.2.1 941 0 else v)) 942 0 (if ¬ w = nI 5 then τ1.2.1 942 0 else v))).1 = (fdG g (trT B S (f + 1) d many P N p mo me ki).2 (trT B S (f + 1) d many P N p mo me ki).1 τ').1 ∧ EqV (rlG g f d (many + 1) (wI (wI (wI τ1 940 0 (if ¬ w = 0 then τ1.2.1 940 0 else v)) 941 0 (if ¬ w = nI 1 then τ1.2.1 941 0 else v)) 942 0 (if ¬ w = nI 5 then τ1.2.1 942 0 else v))).2 (fdG g (trT B S (f + 1) d many P N p mo me ki).2 (trT B S (f + 1) d many P N p mo me ki).1 τ').2 := fun c5 => by
        rw [tr_s c0 c1 c2 (by rw [hw9]; exact c3) (by rw [hw9]; exact c4) (by rw [hw9]; exact fun z => c5.elim (fun y => y) (fun y => absurd z y)), hw9, hv9, d0, h0, h1, h2]
        refine rl_fd hg f d (many + 1) _ τ' _ _ _ _ _ _ ?_ ?_ ?_ (fun j hj => ⟨?_, ?_⟩) (fun b hb => ?_) ?_ ?_ ?_
        · exact EqV.tr (EqV.wI1 (by omega)) (EqV.tr (EqV.wI1 (by omega)) (EqV.tr (EqV.wI1 (by omega)) hadv))
        · exact d2
        · exact d3
        · exact d8 j hj
        · exact d9 j hj
        · exact d7 b hb
        · exact wI3.1
        · exact wI3.2.1
        · exact wI3.2.2
      generalize hX : wI (wI (wI τ1 940 0 (if ¬ w = 0 then τ1.2.1 940 0 else v)) 941 0 (if ¬ w = nI 1 then τ1.2.1 941 0 else v)) 942 0 (if ¬ w = nI 5 then τ1.2.1 942 0 else v) = X at key
      have hm : m_sets w v τ1 = if ¬ w = nI 5 then (nI 0, X) else if p 2 = 9 then (nI 0, X) else (nI 2, τ1) := by
        unfold m_sets
        rw [hX, d7 2 (by decide)]
      by_cases c5 : w = nI 5
      · by_cases c6 : p 2 = 9
        · rw [hm, if_neg (show ¬ ¬ w = nI 5 from fun z => z c5), if_pos c6, if_pos (show nI 0 = 0 from rfl)]
          exact key (Or.inl c6)
        · rw [hm, if_neg (show ¬ ¬ w = nI 5 from fun z => z c5), if_neg c6, tr_2 c0 c1 c2 (hw9.trans c5) c6, if_neg (show ¬ nI 2 = 0 from by decide)]
          exact ⟨rfl, hadv⟩
      · rw [hm, if_pos c5, if_pos (show nI 0 = 0 from rfl)]
        exact key (Or.inr c5)
/-- the three ways to step -/
theorem EqV.wN2 {τ τ' : St} (h : EqV τ τ') {F k v : Nat} : EqV (wN τ F k v) (wN τ' F k v) := ⟨by show up2 τ.1 F k v = up2 τ'.1 F k v; rw [h.1], h.2.1, h.2.2.1, h.2.2.2⟩
theorem EqV.wB2 {τ τ' : St} (h : EqV τ τ') {F k i : Nat} {v : Int32} : EqV (wB τ F k i v) (wB τ' F k i v) := ⟨h.1, h.2.1, h.2.2.1, by show up3 τ.2.2.2 F k i v = up3 τ'.2.2.2 F k i v; rw [h.2.2.2]⟩
theorem EqV.wA2 {τ τ' : St} (h : EqV τ τ') {F k i v : Nat} : EqV (wA τ F k i v) (wA τ' F k i v) := ⟨h.1, h.2.1, fun G x y z => (by
  show up3 τ.2.2.1 F k i v G = up3 τ'.2.2.1 F k i v G
  unfold up3
  by_cases c : G = F
  · rw [if_pos c, if_pos c, ← c, h.2.2.1 G x y z]
  · rw [if_neg c, if_neg c]
    exact h.2.2.1 G x y z), h.2.2.2⟩
theorem cutsIn_V {τ τ' : St} (h : EqV τ τ') {p i t : Nat} : EqV (m_cutsIn p i t τ) (m_cutsIn p i t τ') := by
  unfold m_cutsIn
  rw [h.1, h.2.2.2, h.2.2.1 908 (by decide) (by decide) (by decide)]
  exact h.wB2.wB2.wB2.wB2.wB2.wN2.wN2
theorem tf_V {τ τ' : St} (h : EqV τ τ') {U : Nat} {its : Int32} (hU : U ≠ 937 ∧ U ≠ 938 ∧ U ≠ 939) : m_tf U its τ = m_tf U its τ' := by
  unfold m_tf
  rw [h.1, h.2.2.2, h.2.2.1 U hU.1 hU.2.1 hU.2.2, h.2.2.1 907 (by decide) (by decide) (by decide)]
theorem stG_0 (pl fr : Nat) : StG (m_step0 pl fr) := by
  refine ⟨fun τ τ' h h7 h0 h2 => ?_, fun τ => ?_⟩
  · unfold m_step0
    rw [h.1, h.2.2.2, h7 0 (by decide), h7 1 (by decide), h7 2 (by decide), h0, h2, h.2.2.1 936 (by decide) (by decide) (by decide)]
    repeat' split
    all_goals first | exact ⟨rfl, h⟩ | exact ⟨rfl, h.wN2⟩ | exact ⟨rfl, h.wA2.wB2.wN2⟩
  · unfold m_step0
    repeat' split
    all_goals exact ⟨rfl, rfl, rfl, rfl, rfl, rfl⟩
theorem stG_1 (pl fr : Nat) : StG (m_step1 pl fr) := by
  refine ⟨fun τ τ' h h7 h0 h2 => ?_, fun τ => ?_⟩
  · unfold m_step1
    rw [h2, tf_V h (U := 909) (by decide)]
    generalize m_tf 909 (τ'.2.1 942 0) τ' = r
    rw [h.1, h.2.2.2, h7 0 (by decide), h7 1 (by decide), h7 2 (by decide), h0, h.2.2.1 936 (by decide) (by decide) (by decide), h.2.2.1 909 (by decide) (by decide) (by decide)]
    repeat' split
    all_goals first | exact ⟨rfl, h⟩ | exact ⟨rfl, h.wN2⟩ | exact ⟨rfl, h.wA2.wA2.wB2.wN2⟩
  · unfold m_step1
    repeat' split
    all_goals exact ⟨rfl, rfl, rfl, rfl, rfl, rfl⟩
theorem stG_2 (pl fr : Nat) : StG (m_step2 pl fr) := by
  refine ⟨fun τ τ' h h7 h0 h2 => ?_, fun τ => ?_⟩
  · unfold m_step2
    rw [h2, tf_V h (U := 908) (by decide)]
    generalize m_tf 908 (τ'.2.1 942 0) τ' = r
    rw [h.1, h.2.2.2, h7 0 (by decide), h7 1 (by decide), h7 2 (by decide), h0, h.2.2.1 936 (by decide) (by decide) (by decide), h.2.2.1 908 (by decide) (by decide) (by decide)]
    repeat' split
    all_goals first | exact ⟨rfl, h⟩ | exact ⟨rfl, h.wN2⟩ | exact ⟨rfl, (cutsIn_V h).wA2.wA2.wB2.wN2⟩
  · unfold m_step2
    repeat' split
    all_goals exact ⟨rfl, rfl, rfl, rfl, rfl, rfl⟩
/-- a program's way, from its beginning -/
def pAt0 : Nat → Nat := fun a => if a = 2 then 9 else 0
def TR (B : Nat → Int32) (S : Nat → Nat) (pr : Nat) : List Sp × Int32 := trT B S 2000 1 0 (fun _ => pr) (fun _ => 0) pAt0 (nI 0) (nI 0) (-1)
theorem runs_fd {g : St → Int32 × St} (hg : StG g) {pl pr : Nat} {τ : St} : (rlG g 2000 1 0 (m_ini pl pr τ)).1 = (fdG g (TR (τ.2.2.2 902 0) (τ.2.2.1 903 0) pr).2 (TR (τ.2.2.2 902 0) (τ.2.2.1 903 0) pr).1 (m_ini pl pr τ)).1 ∧ EqV (rlG g 2000 1 0 (m_ini pl pr τ)).2 (fdG g (TR (τ.2.2.2 902 0) (τ.2.2.1 903 0) pr).2 (TR (τ.2.2.2 902 0) (τ.2.2.1 903 0) pr).1 (m_ini pl pr τ)).2 := by
  have e1 : (m_ini pl pr τ).2.2.2 902 = τ.2.2.2 902 := by
    unfold m_ini
    rw [ini0_B, m_cp_F pl 902 τ (by decide)]
  have e2 : (m_ini pl pr τ).2.2.1 903 = τ.2.2.1 903 := by
    show (m_cp pl 144 τ).2.2.1 903 = _
    rw [m_cp_A]
  unfold m_ini at e1 e2 ⊢
  generalize m_cp pl 144 τ = X at e1 e2 ⊢
  refine rl_fd hg 2000 1 0 (m_ini0 pr X) (m_ini0 pr X) _ _ _ _ _ _ EqV.rf (by rw [e1]) (by rw [e2]) (fun j hj => ?_) (fun b hb => ?_) ?_ ?_ ?_
  · have : j = 0 := by omega
    subst this
    exact ⟨rfl, rfl⟩
  · rcases (by omega : b = 0 ∨ b = 1 ∨ b = 2) with rfl | rfl | rfl <;> rfl
  · rfl
  · rfl
  · rfl
