/-! a program proved on a copy -/
set_option maxHeartbeats 200000 in
theorem mvG_ge {g : St → Int32 × St} (hg : ∀ σ, 0 ≤ (g σ).1) {a to : Nat} : ∀ (f : Nat) (σ : St), 0 ≤ (mvG g a to f σ).1
  | 0, σ => (by decide : (0 : Int32) ≤ nI 0)
  | f + 1, σ => by
    unfold mvG
    split
    · exact mvG_ge hg f _
    · exact hg _
set_option maxHeartbeats 200000 in
theorem blG_ge {g : St → Int32 × St} (hg : ∀ σ, 0 ≤ (g σ).1) (w v : Int32) (σ : St) : 0 ≤ (blG g w v σ).1 := by
  unfold blG
  split
  · split
    · exact mvG_ge hg _ _
    · exact (by decide : (0 : Int32) ≤ nI 1)
  · unfold m_sets
    repeat' split
    all_goals first | exact (by decide : (0 : Int32) ≤ nI 0) | exact (by decide : (0 : Int32) ≤ nI 2)
set_option maxHeartbeats 200000 in
theorem rlG_ge {g : St → Int32 × St} (hg : ∀ σ, 0 ≤ (g σ).1) : ∀ (f d m : Nat) (σ : St), 0 ≤ (rlG g f d m σ).1
  | 0, _, _, _ => (by decide : (0 : Int32) ≤ nI 0)
  | f + 1, d, m, σ => by
    unfold rlG
    split
    · exact (by decide : (0 : Int32) ≤ nI 0)
    · split
      · exact rlG_ge hg f _ _ _
      · split
        · exact (by decide : (0 : Int32) ≤ nI 4)
        · split
          · exact rlG_ge hg f _ _ _
          · split
            · exact rlG_ge hg f _ _ _
            · exact blG_ge hg _ _ _
set_option maxHeartbeats 200000 in
theorem step0_ge (p fr : Nat) (σ : St) : 0 ≤ (m_step0 p fr σ).1 := by
  unfold m_step0
  repeat' split
  all_goals first | exact (by decide : (0 : Int32) ≤ nI 0) | exact (by decide : (0 : Int32) ≤ nI 3)
set_option maxHeartbeats 200000 in
theorem runs0_ge (p pr fr : Nat) (τ : St) : 0 ≤ (m_runs0 p pr fr τ).1 := by
  rw [runs0_G]
  exact rlG_ge (step0_ge p fr) _ _ _ _
set_option maxHeartbeats 200000 in
theorem fx_ge {r : Int32} (h : 0 ≤ r) : fx r = r := if_neg (fun z => by rw [z] at h; exact absurd h (by decide))
set_option maxHeartbeats 200000 in
theorem cpj_v {ka kr n : Nat} {ρ : St} : (cpj ka kr n ρ).2.2.1 900 kr = fun i => if i < n then ρ.2.2.1 900 ka i else 0 := by
  show up2 ρ.2.2.1 900 kr (fun i => if i < n then ρ.2.2.1 900 ka i else 0) 900 kr = _
  exact up2_s
set_option maxHeartbeats 200000 in
theorem cpj_o {ka kr n F : Nat} {ρ : St} (h : F ≠ 900) : (cpj ka kr n ρ).2.2.1 F = ρ.2.2.1 F := by
  unfold cpj xR9
  exact funext fun k => up2_n (fun z => h z.1)
set_option maxHeartbeats 200000 in
theorem xS9_o {F F' k : Nat} {f : Nat → Int32} {ρ : St} (h : F' ≠ F) : (xS9 ρ F k f).2.2.2 F' = ρ.2.2.2 F' := by
  unfold xS9
  exact funext fun k => up2_n (fun z => h z.1)
set_option maxHeartbeats 200000 in
theorem LJ.cj {ka kr ku km : Nat} {ρ : St} (h : LJ ka ku km ρ) : LJ kr ku km (cpj ka kr 48 ρ) := by
  obtain ⟨a1, a2, a3, a4⟩ := h
  have e1 : (cpj ka kr 48 ρ).2.2.1 902 = ρ.2.2.1 902 := cpj_o (by decide)
  have e2 : (cpj ka kr 48 ρ).2.2.1 903 = ρ.2.2.1 903 := cpj_o (by decide)
  refine ⟨by rw [e1]; exact a1, by rw [e2]; exact a2, fun i => ?_, a4⟩
  have e : (cpj ka kr 48 ρ).2.2.1 900 kr = fun i => if i < 48 then ρ.2.2.1 900 ka i else 0 := cpj_v
  rw [e]
  show (if i < 48 then ρ.2.2.1 900 ka i else 0) < _
  split
  · exact a3 i
  · decide
set_option maxHeartbeats 200000 in
theorem r0_RS {ρ ρ' : St} (f : RF 2 0 0 0 ρ ρ') : RS ρ ρ' := by
  refine ⟨fun F k hd => f.1 F k (fun z => ?_), fun F k hd h4 => congrFun (f.2.2.2.2 rfl F h4) k, f.2.2.2.2 rfl 901 (by decide)⟩
  rcases hd with ⟨h1, h2⟩ | ⟨h1, h2, h3⟩ <;> omega
set_option maxHeartbeats 200000 in
theorem cp_sim {K p pr fr : Nat} {ρ τ : St} (h : JJ K ρ τ) (hp : p < 2) (hpr : pr < 3) : LJ 2 0 0 (cpj p 2 48 ρ) ∧ (h_run 2 0 0 pr fr 0 (cpj p 2 48 ρ)).1 = (m_runs0 p pr fr τ).1 ∧ RW (h_run 2 0 0 pr fr 0 (cpj p 2 48 ρ)).2 (m_runs0 p pr fr τ).2 ∧ RS ρ (h_run 2 0 0 pr fr 0 (cpj p 2 48 ρ)).2 ∧ ix ((h_run 2 0 0 pr fr 0 (cpj p 2 48 ρ)).2.2.2.2 904 0 6) 80000 := by
  obtain ⟨hN, hP, hA, hT, hM, hQ, hG, hF, hW, hC⟩ := h
  have l0 : LJ 2 0 0 (cpj p 2 48 ρ) := (l_LJ hp hN hA hT hM).cj
  have hr : RS ρ (cpj p 2 48 ρ) := cpj_RS (by decide)
  have x0 : QX0 2 p (cpj p 2 48 ρ) (m_ini p pr τ) := fun c hc => by
    have g := l_QX0 (pr := pr) hp hA c hc
    have e : (cpj p 2 48 ρ).2.2.1 900 2 = fun i => if i < 48 then ρ.2.2.1 900 p i else 0 := cpj_v
    rw [e]
    show nI ((if c < 48 then ρ.2.2.1 900 p c else 0) % 16) = _ ∧ nI ((if c < 48 then ρ.2.2.1 900 p c else 0) / 17592186044416 % 16) = _
    rw [if_pos hc]
    exact g
  have q := run0_sim (fr := fr) l0 (hP.1.eq hr.2.2) hpr (hP.2.1.eq hr.2.2 rfl rfl) x0
  have f := RF_run (kr := 2) (ku := 0) (km := 0) (t9 := 0) (σ := cpj p 2 48 ρ) pr fr
  have ra := run_all (fr := fr) (t9 := 0) l0 (hP.1.eq hr.2.2) hpr
  rw [fx_ge (runs0_ge _ _ _ _)] at q
  exact ⟨l0, q.1, q.2, hr.tr (r0_RS f), ra.2⟩
/-! what lacks -/
set_option maxHeartbeats 200000 in
theorem GW.ts {wr : WrT} {τ τ' : St} (h : GW wr τ) (f : TS τ τ') : GW wr τ' := by
  unfold GW at h ⊢
  rw [f.1 926 (by decide), f.2.2 902 (by decide), f.2.1 903 (by decide) (by decide), f.2.2 915 (by decide), f.2.1 925 (by decide) (by decide), f.2.2 916 (by decide), f.2.1 921 (by decide) (by decide), f.2.1 922 (by decide) (by decide)]
  exact h
def h_lp (k : Nat) (ρ : St) : Nat := tn (ρ.2.2.2 905 0 (8 + k))
def h_lr (k : Nat) (ρ : St) : Int32 × St := h_run 2 0 0 (tn (ρ.2.2.2 905 0 (4 * h_lp k ρ + 1))) (tn (ρ.2.2.2 905 0 (4 * h_lp k ρ + 2))) 0 (cpj (h_lp k ρ) 2 48 ρ)
def h_e9 (X ρ : St) : St := xS9 ρ 904 0 (X.2.2.2 904 0)
set_option maxHeartbeats 200000 in
theorem e9_RS {X ρ : St} : RS ρ (h_e9 X ρ) := ⟨fun _ _ _ => rfl, fun F k hd h4 => congrFun (xS9_o h4) k, xS9_o (by decide)⟩
def h_lk (kd : Nat) : Nat → St → Int32 × St
  | 0, ρ => (nI 0, ρ)
  | k + 1, ρ => ((h_lk kd k ρ).1 + (if (h_lr k (h_lk kd k ρ).2).1 = 0 then (h_lr k (h_lk kd k ρ).2).2.2.2.2 904 0 (8 + kd) else nI 1000), h_e9 (h_lr k (h_lk kd k ρ).2).2 (h_lk kd k ρ).2)
set_option maxHeartbeats 200000 in
theorem hlk_s {kd k : Nat} {ρ : St} : h_lk kd (k + 1) ρ = ((h_lk kd k ρ).1 + (if (h_lr k (h_lk kd k ρ).2).1 = 0 then (h_lr k (h_lk kd k ρ).2).2.2.2.2 904 0 (8 + kd) else nI 1000), h_e9 (h_lr k (h_lk kd k ρ).2).2 (h_lk kd k ρ).2) := rfl
set_option maxHeartbeats 200000 in
theorem lr_sim {K kd k : Nat} {ρ τ : St} (hkd : kd < 4) (h : JJ K ρ τ) (hw : GW wr0 τ) (hk : k < τ.1 926 0) : (h_lr k ρ).1 = 0 ∧ (rq0 k τ).1 = 0 ∧ (h_lr k ρ).2.2.2.2 904 0 (8 + kd) = nI ((rq0 k τ).2.2.2.1 936 0 kd) ∧ TS τ (rq0 k τ).2 ∧ ix (ρ.2.2.2 905 0 (8 + k)) 2 ∧ ix (ρ.2.2.2 905 0 (4 * h_lp k ρ + 1)) 3 ∧ ix (ρ.2.2.2 905 0 (4 * h_lp k ρ + 2)) 80000 ∧ LJ 2 0 0 (cpj (h_lp k ρ) 2 48 ρ) := by
  have hQ := h.2.2.2.2.2.1
  obtain ⟨q10, q2, qi, qd, qp⟩ := hQ
  obtain ⟨g1, g2⟩ := qi k hk
  have e8 : h_lp k ρ = τ.2.2.1 925 0 k := by unfold h_lp; rw [g1, tn_nI (by omega)]
  obtain ⟨b1, b2, b3, b4, b5, b6⟩ := qp _ g2
  have w := (wr_runs0 (hw k hk)).1
  have q := cp_sim (fr := τ.2.2.1 922 0 (τ.2.2.1 925 0 k)) h g2 b5
  have e1 : tn (ρ.2.2.2 905 0 (4 * τ.2.2.1 925 0 k + 1)) = τ.2.2.1 921 0 (τ.2.2.1 925 0 k) := by rw [b2, tn_nI (by omega)]
  have e2 : tn (ρ.2.2.2 905 0 (4 * τ.2.2.1 925 0 k + 2)) = τ.2.2.1 922 0 (τ.2.2.1 925 0 k) := by rw [b3, tn_nI (by omega)]
  have fr := FR_runs0 (τ.2.2.1 925 0 k) (τ.2.2.1 921 0 (τ.2.2.1 925 0 k)) (τ.2.2.1 922 0 (τ.2.2.1 925 0 k)) τ
  unfold h_lr rq0
  rw [e8, e1, e2, b2, b3, g1]
  generalize h_run 2 0 0 (τ.2.2.1 921 0 (τ.2.2.1 925 0 k)) (τ.2.2.1 922 0 (τ.2.2.1 925 0 k)) 0 (cpj (τ.2.2.1 925 0 k) 2 48 ρ) = X at q ⊢
  generalize m_runs0 (τ.2.2.1 925 0 k) (τ.2.2.1 921 0 (τ.2.2.1 925 0 k)) (τ.2.2.1 922 0 (τ.2.2.1 925 0 k)) τ = Y at q w fr ⊢
  exact ⟨q.2.1.trans w, w, q.2.2.1.2.2.2.2.2.1 kd hkd, TS.fr0 fr, (ix_nI (by omega)).mpr g2, (ix_nI (by omega)).mpr b5, (ix_nI (by omega)).mpr b6, q.1⟩
set_option maxHeartbeats 200000 in
theorem lk_sim {K kd : Nat} {ρ τ : St} (hkd : kd < 4) (h : JJ K ρ τ) (hw : GW wr0 τ) : ∀ k, k ≤ τ.1 926 0 → (h_lk kd k ρ).1 = (m_lk (nI kd) k τ).1 ∧ RS ρ (h_lk kd k ρ).2 ∧ TS τ (m_lk (nI kd) k τ).2 := by
  intro k
  induction k with
  | zero => intro _; exact ⟨rfl, RS.rf, TS.rf⟩
  | succ k ih =>
    intro hk
    obtain ⟨i1, i2, i3⟩ := ih (Nat.le_of_succ_le hk)
    have hj : JJ K (h_lk kd k ρ).2 (m_lk (nI kd) k τ).2 := (h.rho i2).tau i3
    have q := lr_sim hkd hj (hw.ts i3) (by rw [i3.1 926 (by decide)]; exact hk)
    rw [lk_s, hlk_s, tn_nI (Nat.lt_of_lt_of_le hkd (by decide))]
    obtain ⟨a1, a2, a3, a4, -⟩ := q
    refine ⟨?_, i2.tr e9_RS, i3.tr a4⟩
    show (h_lk kd k ρ).1 + (if (h_lr k (h_lk kd k ρ).2).1 = 0 then (h_lr k (h_lk kd k ρ).2).2.2.2.2 904 0 (8 + kd) else nI 1000) = (m_lk (nI kd) k τ).1 + (if ¬ (rq0 k (m_lk (nI kd) k τ).2).1 = 0 then nI 0 else nI ((rq0 k (m_lk (nI kd) k τ).2).2.2.2.1 936 0 kd))
    rw [if_pos a1, if_neg (not_not_intro9 a2), i1, a3]
/-- less what is left -/
def h_ll (kd : Nat) (ρ : St) (v : Int32) : Nat → Int32
  | 0 => v
  | k + 1 => h_ll kd ρ v k - (if ρ.2.2.2 902 0 (9 * k) = nI kd then (if ρ.2.2.2 902 0 (9 * k + 4) = nI 1 then ρ.2.2.2 902 0 (9 * k + 1) - ρ.2.2.2 902 0 (9 * k + 2) else nI 0) else nI 0)
set_option maxHeartbeats 200000 in
theorem ll_sim {kd : Nat} {v : Int32} {ρ τ : St} (h : RTu 0 908 ρ τ) : ∀ k, k ≤ 4 → h_ll kd ρ v k = m_ll (nI kd) v τ k
  | 0, _ => rfl
  | k + 1, hk => by
    have i := ll_sim (v := v) (kd := kd) h k (Nat.le_of_succ_le hk)
    obtain ⟨a1, a2, a3, a4, a5, a6, a7⟩ := h.2 k hk
    show h_ll kd ρ v k - _ = m_ll (nI kd) v τ k - _
    rw [i, a1, a2, a3, a4]
    congr 1
    by_cases c1 : τ.2.2.2 906 0 k = nI kd
    · rw [if_pos c1]
      rcases a5 with a5 | a5
      · rw [a5, if_neg (by decide), if_pos rfl]
      · rw [a5, if_pos (show (1 : Int32) = nI 1 by decide), if_neg (show ¬ (1 : Int32) = 0 by decide), if_neg (not_not_intro9 c1)]
    · rw [if_neg c1]
      by_cases c2 : τ.2.2.2 911 0 k = 0
      · rw [if_pos c2]
      · rw [if_neg c2, if_pos c1]
def h_lacks (kd : Nat) (ρ : St) : Int32 × St := (if 0 < h_ll kd (h_lk kd (tn (ρ.2.2.2 905 0 10)) ρ).2 (h_lk kd (tn (ρ.2.2.2 905 0 10)) ρ).1 4 then h_ll kd (h_lk kd (tn (ρ.2.2.2 905 0 10)) ρ).2 (h_lk kd (tn (ρ.2.2.2 905 0 10)) ρ).1 4 else nI 0, (h_lk kd (tn (ρ.2.2.2 905 0 10)) ρ).2)
set_option maxHeartbeats 200000 in
theorem pos_eq (x : Int32) : (if 0 < x then x else nI 0) = m_pos x := by
  unfold m_pos
  by_cases c : 0 < x
  · rw [if_pos c, if_pos (Int32.le_of_lt c)]
  · rw [if_neg c]
    by_cases c2 : 0 ≤ x
    · rw [if_pos c2]
      exact Int32.le_antisymm c2 (Int32.not_lt.mp c)
    · rw [if_neg c2]
set_option maxHeartbeats 200000 in
theorem lk_944 (v : Int32) (τ : St) (k : Nat) : (m_lk v k τ).2.2.1 944 0 = τ.2.1 944 0 := by
  induction k with
  | zero => rfl
  | succ k ih =>
    rw [lk_s]
    refine Eq.trans ?_ ih
    exact congrFun ((FR_runs0 _ _ _ _).2.1 944 (by decide)) 0
set_option maxHeartbeats 200000 in
theorem lacks_sim {K kd : Nat} {ρ τ : St} (hkd : kd < 4) (h : JJ K ρ τ) (hw : GW wr0 τ) : (h_lacks kd ρ).1 = (m_lacks (nI kd) τ).1 ∧ RS ρ (h_lacks kd ρ).2 ∧ TS τ (m_lacks (nI kd) τ).2 ∧ (m_lacks (nI kd) τ).2.2.1 944 0 = nI 0 := by
  have hg : TS τ (m_g (ix (nI kd) 4) True True τ) := TS.g _ _ _ _
  have hj := h.tau hg
  have q := lk_sim hkd hj (hw.ts hg) (τ.1 926 0) (Nat.le_of_eq (hg.1 926 (by decide) ▸ rfl))
  have hix : ix (nI kd) 4 := (ix_nI (Nat.lt_of_lt_of_le hkd (by decide))).mpr hkd
  have t10 : tn (ρ.2.2.2 905 0 10) = τ.1 926 0 := by
    have b2 := h.2.2.2.2.2.1.2.1
    rw [h.2.2.2.2.2.1.1, tn_nI (by omega)]
  unfold h_lacks m_lacks
  rw [if_pos (show ix (nI kd) 4 ∧ True ∧ True from ⟨hix, trivial, trivial⟩), t10, h.2.2.2.1.1.1]
  have h944 : (m_g (ix (nI kd) 4) True True τ).2.1 944 0 = nI 0 := by
    unfold m_g
    rw [t944]
    unfold gcode
    rw [if_pos hix, if_pos trivial, if_pos trivial]
  have h9 : (m_lk (nI kd) (τ.1 926 0) (m_g (ix (nI kd) 4) True True τ)).2.2.1 944 0 = nI 0 := by
    rw [← h944]
    exact lk_944 _ _ _
  have hl := ll_sim (kd := kd) (v := (h_lk kd (τ.1 926 0) ρ).1) ((h.rho q.2.1).tau (hg.tr q.2.2)).2.2.2.1.1 4 (by decide)
  generalize h_lk kd (τ.1 926 0) ρ = X at q hl ⊢
  generalize m_lk (nI kd) (τ.1 926 0) (m_g (ix (nI kd) 4) True True τ) = Y at q h9 hl ⊢
  refine ⟨?_, q.2.1, hg.tr q.2.2, h9⟩
  show (if 0 < h_ll kd X.2 X.1 4 then h_ll kd X.2 X.1 4 else nI 0) = m_pos (m_ll (nI kd) Y.1 Y.2 4)
  rw [hl, pos_eq, q.1]
