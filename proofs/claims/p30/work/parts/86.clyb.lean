/-! THE WAY OF THE SPINDLE: the class goes it -/
theorem wI_sv {σ : St} {F k : Nat} {v : Int32} : (wI σ F k v).2.1 F k = v := by
  show up2 σ.2.1 F k v F k = v
  exact up2_s
theorem wN_sv {σ : St} {F k v : Nat} : (wN σ F k v).1 F k = v := by
  show up2 σ.1 F k v F k = v
  exact up2_s
theorem gmx_lim {a : Nat} : gmx a = m_lim a := by
  unfold gmx m_lim
  by_cases h : a = 2
  · rw [if_pos h, if_neg (fun z => z h)]
  · rw [if_neg h, if_pos h]
theorem dist_0 {x : Nat} : m_dist x x = 0 := by unfold m_dist; omega
theorem mvT_0 {a to : Nat} {mo ki : Int32} {p : Nat → Nat} (h : p a = to) : mvT a to mo ki (m_dist (p a) to) p = [] ∧ mvE a to (m_dist (p a) to) p = p := by
  rw [h, dist_0]
  exact ⟨rfl, rfl⟩
theorem mvT_s {a to : Nat} {mo ki : Int32} {p : Nat → Nat} (h : ¬ p a = to) : mvT a to mo ki (m_dist (p a) to) p = (up1 p a (m_nx (p a) to), mo, ki) :: mvT a to mo ki (m_dist (up1 p a (m_nx (p a) to) a) to) (up1 p a (m_nx (p a) to)) ∧ mvE a to (m_dist (p a) to) p = mvE a to (m_dist (up1 p a (m_nx (p a) to) a) to) (up1 p a (m_nx (p a) to)) := by
  rw [up1_s, ← nx_dist h]
  exact ⟨rfl, rfl⟩
/-- where the class's walk is -/
def SimW (B : Nat → Int32) (S : Nat → Nat) (σ : St) (d many : Nat) (P N p : Nat → Nat) (mo me ki : Int32) : Prop :=
  (∀ i, i < σ.1 1002 6 → σ.1 402 i = S i ∧ ∀ j, j < S i → σ.2.2.2 400 i j = B (60 * i + 2 * j) ∧ σ.2.2.2 401 i j = B (60 * i + 2 * j + 1) ∧ isB (nI i) (B (60 * i + 2 * j)) (B (60 * i + 2 * j + 1))) ∧
  (∀ i, i < σ.1 1002 6 → σ.2.2.1 1001 6 i = i) ∧ σ.1 1002 6 ≤ 6 ∧ σ.1 1002 7 = d ∧ d ≤ 6 ∧ σ.1 706 0 = many ∧ many ≤ 600 ∧
  (∀ j, j < d → σ.2.2.1 1001 7 j = P j ∧ σ.2.2.1 702 0 j = N j ∧ P j + j < σ.1 1002 6 ∧ N j ≤ S (P j)) ∧
  (∀ a, a < 3 → σ.2.2.1 703 0 a = p a ∧ p a ≤ gmx a) ∧ σ.2.1 707 0 = mo ∧ σ.2.1 708 0 = me ∧ σ.2.1 709 0 = ki ∧ σ.2.1 710 0 = 0
/-- what is still to come: the steps, and what ends them -/
def TK (B : Nat → Int32) (S : Nat → Nat) (T : List Sp) (c : Int32) (σ : St) : Prop := ∃ (f d many : Nat) (P N p : Nat → Nat) (mo me ki : Int32) (a to : Nat), SimW B S σ d many P N p mo me ki ∧ σ.1 704 0 = a ∧ σ.1 705 0 = to ∧ a < 3 ∧ to ≤ gmx a ∧ 2 * (600 - many) + d + 1 ≤ f ∧ T = mvT a to mo ki (m_dist (p a) to) p ++ (trT B S f d many P N (mvE a to (m_dist (p a) to) p) mo me ki).1 ∧ c = (trT B S f d many P N (mvE a to (m_dist (p a) to) p) mo me ki).2
def AtS (s : Sp) (σ : St) : Prop := σ.2.2.1 703 0 0 = s.1 0 ∧ σ.2.2.1 703 0 1 = s.1 1 ∧ σ.2.2.1 703 0 2 = s.1 2 ∧ σ.2.1 707 0 = s.2.1 ∧ σ.2.1 709 0 = s.2.2
def GRw (B : Nat → Int32) (S : Nat → Nat) (r : Int32 × St) : List Sp → Int32 → Prop
  | [], c => r.1 = nI 0 ∧ r.2.2.1 710 0 = c
  | s :: T, c => r.1 = nI 1 ∧ AtS s r.2 ∧ TK B S T c r.2
/-- the walk's own fields, and the programs -/
def EqK (σ σ' : St) : Prop := (∀ F, F = 402 ∨ F = 704 ∨ F = 705 ∨ F = 706 ∨ F = 1002 → σ'.1 F = σ.1 F) ∧ (∀ F, 707 ≤ F → F ≤ 710 → σ'.2.1 F = σ.2.1 F) ∧ (∀ F, F = 702 ∨ F = 703 ∨ F = 1001 → σ'.2.2.1 F = σ.2.2.1 F) ∧ ∀ F, F = 400 ∨ F = 401 → σ'.2.2.2 F = σ.2.2.2 F
theorem sim_eq {B : Nat → Int32} {S : Nat → Nat} {σ σ' : St} {d many : Nat} {P N p : Nat → Nat} {mo me ki : Int32} (h : SimW B S σ d many P N p mo me ki) (e : EqK σ σ') : SimW B S σ' d many P N p mo me ki := by
  obtain ⟨e1, e2, e3, e4⟩ := e
  unfold SimW
  rw [e1 402 (by omega), e1 706 (by omega), e1 1002 (by omega), e2 707 (by omega) (by omega), e2 708 (by omega) (by omega), e2 709 (by omega) (by omega), e2 710 (by omega) (by omega), e3 702 (by omega), e3 703 (by omega), e3 1001 (by omega), e4 400 (by omega), e4 401 (by omega)]
  exact h
theorem tk_eq {B : Nat → Int32} {S : Nat → Nat} {T : List Sp} {c : Int32} {σ σ' : St} (h : TK B S T c σ) (e : EqK σ σ') : TK B S T c σ' := by
  obtain ⟨f, d, many, P, N, p, mo, me, ki, a, to, h1, h2, h3, h4⟩ := h
  exact ⟨f, d, many, P, N, p, mo, me, ki, a, to, sim_eq h1 e, by rw [e.1 704 (by omega)]; exact h2, by rw [e.1 705 (by omega)]; exact h3, h4⟩
section SIM
variable {B : Nat → Int32} {S : Nat → Nat} {σ : St} {d many : Nat} {P N p : Nat → Nat} {mo me ki : Int32}
theorem sim_mv {a to : Nat} (h : SimW B S σ d many P N p mo me ki) (h4 : σ.1 704 0 = a) (h5 : σ.1 705 0 = to) (ha : a < 3) (hto : to ≤ gmx a) (hne : ¬ p a = to) : SimW B S (k_mv σ) d many P N (up1 p a (m_nx (p a) to)) mo me ki := by
  obtain ⟨s1, s2, s3, s4, s5, s6, s7, s8, s9, s10⟩ := h
  refine ⟨s1, s2, s3, s4, s5, s6, s7, fun j hj => ?_, fun b hb => ?_, s10⟩
  · have : (k_mv σ).2.2.1 702 0 = σ.2.2.1 702 0 := by simp [k_mv, wA, up3]
    rw [this]
    exact s8 j hj
  · have e : (k_mv σ).2.2.1 703 0 = up1 (σ.2.2.1 703 0) a (if p a < to then p a + 1 else p a - 1) := by
      unfold k_mv
      rw [wA_s, h4, h5, (s9 a ha).1]
    rw [e]
    by_cases c : b = a
    · subst c
      rw [up1_s, up1_s]
      refine ⟨?_, ?_⟩
      · unfold m_nx
        by_cases q : to ≤ p b
        · rw [if_neg (by omega), if_pos q]
        · rw [if_pos (by omega), if_neg q]
      · exact nx_lim (s9 b hb).2 hto hne
    · rw [up1_n c, up1_n c]
      exact s9 b hb
theorem sim_pop {d9 : Nat} (h : SimW B S σ (d9 + 1) many P N p mo me ki) : SimW B S (lrem 7 d9 σ) d9 many P N p mo me ki := by
  obtain ⟨s1, s2, s3, s4, s5, s6, s7, s8, s9, s10⟩ := h
  refine ⟨s1, s2, s3, by rw [lrem_N, s4]; rfl, by omega, s6, s7, fun j hj => ?_, s9, s10⟩
  obtain ⟨q1, q2⟩ := s8 j (by omega)
  refine ⟨?_, q2⟩
  rw [lrem_A]
  exact (if_pos hj).trans q1
theorem gs_pop {g d9 : Nat} (h7 : σ.1 1002 7 = d9 + 1) (h0 : σ.2.1 710 0 = 0) (hg : σ.2.2.1 703 0 (σ.1 704 0) = σ.1 705 0) (hE : ¬ σ.2.2.1 702 0 d9 < σ.1 402 (σ.2.2.1 1001 7 d9)) : k_gs (g + 1) σ = k_gs (g + 1) (lrem 7 d9 σ) := by
  have e1 : k_lv (σ.1 1002 7) σ = k_lv d9 (lrem 7 d9 σ) := by
    rw [h7]
    exact if_neg hE
  have e2 : (lrem 7 d9 σ).1 1002 7 = d9 := by rw [lrem_N, h7]; rfl
  have h0' : (lrem 7 d9 σ).2.1 710 0 = 0 := h0
  have hg' : (lrem 7 d9 σ).2.2.1 703 0 ((lrem 7 d9 σ).1 704 0) = (lrem 7 d9 σ).1 705 0 := hg
  by_cases c : (k_lv (σ.1 1002 7) σ).1 1002 7 = 0
  · rw [gs_e h0 hg c, gs_e h0' hg' (by rw [e2, ← e1]; exact c), e1, e2]
  · rw [gs_r h0 hg c, gs_r h0' hg' (by rw [e2, ← e1]; exact c), e1, e2]
theorem gs_wr {g : Nat} (h : ¬ σ.2.1 710 0 = 0) : k_gs g σ = (nI 0, σ) := by
  cases g with
  | zero => rfl
  | succ g => exact gs_w h
/-- on the way: the next step -/
theorem gs_go {f g a to : Nat} (h : SimW B S σ d many P N p mo me ki) (h4 : σ.1 704 0 = a) (h5 : σ.1 705 0 = to) (ha : a < 3) (hto : to ≤ gmx a) (hne : ¬ p a = to) (hf : 2 * (600 - many) + d + 1 ≤ f) : GRw B S (k_gs (g + 1) σ) (mvT a to mo ki (m_dist (p a) to) p ++ (trT B S f d many P N (mvE a to (m_dist (p a) to) p) mo me ki).1) (trT B S f d many P N (mvE a to (m_dist (p a) to) p) mo me ki).2 := by
  have hm := sim_mv h h4 h5 ha hto hne
  obtain ⟨s1, s2, s3, s4, s5, s6, s7, s8, s9, s10, s11, s12, s13⟩ := h
  have e : k_gs (g + 1) σ = (nI 1, k_mv σ) := gs_s s13 (by rw [h4, h5, (s9 a ha).1]; exact hne)
  obtain ⟨m1, m2⟩ := mvT_s (mo := mo) (ki := ki) hne
  rw [e, m1, m2]
  refine ⟨rfl, ⟨(hm.2.2.2.2.2.2.2.2.1 0 (by decide)).1, (hm.2.2.2.2.2.2.2.2.1 1 (by decide)).1, (hm.2.2.2.2.2.2.2.2.1 2 (by decide)).1, hm.2.2.2.2.2.2.2.2.2.1, hm.2.2.2.2.2.2.2.2.2.2.2.1⟩, ?_⟩
  exact ⟨f, d, many, P, N, up1 p a (m_nx (p a) to), mo, me, ki, a, to, hm, h4, h5, ha, hto, hf, rfl, rfl⟩
theorem isB_c {i w v : Int32} (h : isB i w v) : ((w = nI 0 ∨ w = nI 1) ∧ (v = nI 0 ∨ v = nI 1)) ∨ (w = nI 2 ∨ w = nI 3 ∨ w = nI 4) ∨ (w = nI 5 ∧ ix v 4) ∨ (w = nI 6 ∧ nI 0 ≤ v ∧ v ≤ i - nI 1) := by
  unfold isB at h
  by_cases c : w = nI 0 ∨ w = nI 1
  · rw [if_pos c] at h
    have h1 := (rg_z 1 (by decide)).mp h
    have h2 := ix_eq h1
    have h3 := ix_lt h1
    refine Or.inl ⟨c, ?_⟩
    generalize tn v = z at h2 h3
    rcases (by omega : z = 0 ∨ z = 1) with rfl | rfl
    · exact Or.inl h2
    · exact Or.inr h2
  · rw [if_neg c] at h
    by_cases c2 : w = nI 2 ∨ w = nI 3 ∨ w = nI 4
    · exact Or.inr (Or.inl c2)
    · rw [if_neg c2] at h
      by_cases c3 : w = nI 5
      · rw [if_pos c3] at h
        exact Or.inr (Or.inr (Or.inl ⟨c3, (rg_z 3 (by decide)).mp h⟩))
      · rw [if_neg c3] at h
        exact Or.inr (Or.inr (Or.inr h))
theorem sim_adv (h : SimW B S σ d many P N p mo me ki) (hd : 0 < d) (hn : N (d - 1) < S (P (d - 1))) (hm : many < 600) : SimW B S (wA (wN σ 706 0 (σ.1 706 0 + 1)) 702 0 (d - 1) (σ.2.2.1 702 0 (d - 1) + 1)) d (many + 1) P (up1 N (d - 1) (N (d - 1) + 1)) p mo me ki := by
  obtain ⟨s1, s2, s3, s4, s5, s6, s7, s8, s9, s10⟩ := h
  refine ⟨s1, s2, s3, s4, s5, ?_, hm, fun j hj => ?_, s9, s10⟩
  · show up2 σ.1 706 0 (σ.1 706 0 + 1) 706 0 = _
    rw [up2_s, s6]
  · obtain ⟨q1, q2, q3, q4⟩ := s8 j hj
    refine ⟨q1, ?_, q3, ?_⟩
    · show up3 σ.2.2.1 702 0 (d - 1) (σ.2.2.1 702 0 (d - 1) + 1) 702 0 j = _
      rw [up3_s, (s8 (d - 1) (by omega)).2.1]
      by_cases e : j = d - 1
      · rw [e, up1_s, up1_s]
      · rw [up1_n e, up1_n e]; exact q2
    · by_cases e : j = d - 1
      · rw [e, up1_s]; omega
      · rw [up1_n e]; exact q4
theorem sim_call {v : Int32} (h : SimW B S σ d many P N p mo me ki) (hd : 0 < d) (hv : nI 0 ≤ v ∧ v ≤ nI (P (d - 1)) - nI 1) : SimW B S (k_ent v σ) (d + 1) many (up1 P d (tn v)) (up1 N d 0) p mo me ki := by
  obtain ⟨s1, s2, s3, s4, s5, s6, s7, s8, s9, s10⟩ := h
  obtain ⟨q1, q2, q3, q4⟩ := s8 (d - 1) (by omega)
  have hi : ix v (P (d - 1)) := (rg_m (by omega)).mp hv
  have hlt := ix_lt hi
  have hc : ix v (σ.1 1002 6) ∧ σ.1 1002 7 < 6 := ⟨⟨hi.1, by have := hi.2; omega⟩, by omega⟩
  have e : k_ent v σ = ladd 7 (σ.2.2.1 1001 6 (tn v)) (wA σ 702 0 (σ.1 1002 7) 0) := if_pos hc
  rw [e, s2 (tn v) (by omega), s4]
  refine ⟨s1, s2, s3, ?_, by omega, s6, s7, fun j hj => ?_, s9, s10⟩
  · rw [ladd_N]
    show σ.1 1002 7 + 1 = _
    rw [s4]
  · have a1 : (ladd 7 (tn v) (wA σ 702 0 d 0)).2.2.1 1001 7 = up1 (σ.2.2.1 1001 7) d (tn v) := by
      rw [ladd_A]
      show up1 (σ.2.2.1 1001 7) (σ.1 1002 7) (tn v) = _
      rw [s4]
    have a2 : (ladd 7 (tn v) (wA σ 702 0 d 0)).2.2.1 702 0 = up1 (σ.2.2.1 702 0) d 0 := (((ladd_off 7 (tn v) 0 (fun _ _ => 0) (wA σ 702 0 d 0)).2.1 702 0 (fun z => by omega)).1).trans wA_s
    rw [a1, a2]
    by_cases c : j = d
    · rw [c, up1_s, up1_s, up1_s, up1_s]
      refine ⟨rfl, rfl, ?_, Nat.zero_le _⟩
      show tn v + d < σ.1 1002 6
      omega
    · rw [up1_n c, up1_n c, up1_n c, up1_n c]
      exact s8 j (by omega)
end SIM
/-- at rest: blocks are obeyed until a step, or the end -/
theorem gs_at {B : Nat → Int32} {S : Nat → Nat} : ∀ (f g d many : Nat) (σ : St) (P N p : Nat → Nat) (mo me ki : Int32) (a to : Nat), SimW B S σ d many P N p mo me ki → σ.1 704 0 = a → σ.1 705 0 = to → a < 3 → to ≤ gmx a → p a = to → 2 * (600 - many) + d + 1 ≤ f → 601 ≤ g + many → GRw B S (k_gs g σ) (trT B S f d many P N p mo me ki).1 (trT B S f d many P N p mo me ki).2
  | 0, _, _, _, _, _, _, _, _, _, _, _, _, _, _, _, _, _, _, hf, _ => by omega
  | f + 1, g, d, many, σ, P, N, p, mo, me, ki, a, to, h, h4, h5, ha, hto, hat, hf, hg => by
    have h' := h
    obtain ⟨s1, s2, s3, s4, s5, s6, s7, s8, s9, s10, s11, s12, s13⟩ := h'
    obtain ⟨g, rfl⟩ : ∃ k, g = k + 1 := ⟨g - 1, by omega⟩
    have hrest : σ.2.2.1 703 0 (σ.1 704 0) = σ.1 705 0 := by rw [h4, h5, (s9 a ha).1]; exact hat
    by_cases c0 : d = 0
    · rw [tr_0 c0]
      have e : k_lv (σ.1 1002 7) σ = σ := by rw [s4, c0]; rfl
      rw [gs_e s13 hrest (by rw [e, s4]; exact c0), e]
      exact ⟨rfl, s13⟩
    obtain ⟨q1, q2, q3, q4⟩ := s8 (d - 1) (by omega)
    have hS : σ.1 402 (P (d - 1)) = S (P (d - 1)) := (s1 _ (by omega)).1
    by_cases c1 : N (d - 1) = S (P (d - 1))
    · rw [tr_p c0 c1]
      obtain ⟨d, rfl⟩ : ∃ k, d = k + 1 := ⟨d - 1, by omega⟩
      have q1 : σ.2.2.1 1001 7 d = P d := q1
      have q2 : σ.2.2.1 702 0 d = N d := q2
      have c1 : N d = S (P d) := c1
      have hS : σ.1 402 (P d) = S (P d) := hS
      rw [gs_pop s4 s13 hrest (by rw [q1, q2, hS]; omega)]
      exact gs_at f (g + 1) d many _ P N p mo me ki a to (sim_pop h) h4 h5 ha hto hat (by omega) hg
    have hlt : N (d - 1) < S (P (d - 1)) := by omega
    have elv : k_lv (σ.1 1002 7) σ = σ := by
      rw [s4]
      obtain ⟨d, rfl⟩ : ∃ k, d = k + 1 := ⟨d - 1, by omega⟩
      have q1 : σ.2.2.1 1001 7 d = P d := q1
      have q2 : σ.2.2.1 702 0 d = N d := q2
      have hlt : N d < S (P d) := hlt
      have hS : σ.1 402 (P d) = S (P d) := hS
      exact if_pos (by rw [q1, q2, hS]; exact hlt)
    rw [gs_r s13 hrest (by rw [elv, s4]; exact c0), elv, s4]
    by_cases c2 : many = 600
    · rw [tr_4 c0 c1 c2]
      have e : k_obey (d - 1) σ = wI σ 710 0 (nI 4) := if_pos (by omega)
      have e7 : (wI σ 710 0 (nI 4)).2.1 710 0 = nI 4 := wI_sv
      rw [e, gs_wr (by rw [e7]; decide)]
      exact ⟨rfl, e7⟩
    have hb := (s1 _ (by omega : P (d - 1) < σ.1 1002 6)).2 (N (d - 1)) hlt
    have e : k_obey (d - 1) σ = k_wv (bW B P N d) (bV B P N d) (wA (wN σ 706 0 (σ.1 706 0 + 1)) 702 0 (d - 1) (σ.2.2.1 702 0 (d - 1) + 1)) := by
      refine (if_neg (by omega)).trans ?_
      rw [q1, q2, hb.1, hb.2.1]
      rfl
    have hB : isB (nI (P (d - 1))) (bW B P N d) (bV B P N d) := hb.2.2
    have hadv := sim_adv h (by omega) hlt (by omega)
    have h41 : (wA (wN σ 706 0 (σ.1 706 0 + 1)) 702 0 (d - 1) (σ.2.2.1 702 0 (d - 1) + 1)).1 704 0 = a := h4
    have h51 : (wA (wN σ 706 0 (σ.1 706 0 + 1)) 702 0 (d - 1) (σ.2.2.1 702 0 (d - 1) + 1)).1 705 0 = to := h5
    rw [e]
    generalize wA (wN σ 706 0 (σ.1 706 0 + 1)) 702 0 (d - 1) (σ.2.2.1 702 0 (d - 1) + 1) = σ1 at hadv h41 h51 ⊢
    have hadv' := hadv
    obtain ⟨t1, t2, t3, t4, t5, t6, t7, t8, t9, t10, t11, t12, t13⟩ := hadv'
    rcases isB_c hB with ⟨hw, hv⟩ | hw | ⟨hw, hv⟩ | ⟨hw, hv⟩
    · rcases hw with hw | hw
      · have e1 : k_wv (bW B P N d) (bV B P N d) σ1 = wI σ1 707 0 (bV B P N d) := by
          rw [hw]
          refine (if_pos rfl).trans (congrArg _ ?_)
          unfold k_b1
          rcases hv with hv | hv <;> rw [hv] <;> decide
        rw [e1, tr_s c0 c1 c2 (by rw [hw]; decide) (by rw [hw]; decide) (fun z => absurd (hw.symm.trans z) (by decide)), if_neg (by rw [hw]; decide), if_pos (by rw [hw]; decide), if_pos (by rw [hw]; decide)]
        exact gs_at f g d (many + 1) _ P _ p _ me ki a to ⟨t1, t2, t3, t4, t5, t6, t7, t8, t9, wI_sv, t11, t12, t13⟩ h41 h51 ha hto hat (by omega) (by omega)
      · have e1 : k_wv (bW B P N d) (bV B P N d) σ1 = wI σ1 708 0 (bV B P N d) := by
          rw [hw]
          refine (if_neg (by decide)).trans ((if_pos rfl).trans (congrArg _ ?_))
          unfold k_b1
          rcases hv with hv | hv <;> rw [hv] <;> decide
        rw [e1, tr_s c0 c1 c2 (by rw [hw]; decide) (by rw [hw]; decide) (fun z => absurd (hw.symm.trans z) (by decide)), if_pos (by rw [hw]; decide), if_neg (by rw [hw]; decide), if_pos (by rw [hw]; decide)]
        exact gs_at f g d (many + 1) _ P _ p mo _ ki a to ⟨t1, t2, t3, t4, t5, t6, t7, t8, t9, t10, wI_sv, t12, t13⟩ h41 h51 ha hto hat (by omega) (by omega)
    · obtain ⟨b, hb3, hwb, hkb⟩ : ∃ b, b < 3 ∧ bW B P N d = nI (b + 2) ∧ k_wv (bW B P N d) (bV B P N d) σ1 = k_aim b (gmx b) (bV B P N d) σ1 := by
        rcases hw with hw | hw | hw
        · exact ⟨0, by decide, hw, by rw [hw]; exact (if_neg (by decide)).trans ((if_neg (by decide)).trans (if_pos rfl))⟩
        · exact ⟨1, by decide, hw, by rw [hw]; exact (if_neg (by decide)).trans ((if_neg (by decide)).trans ((if_neg (by decide)).trans (if_pos rfl)))⟩
        · exact ⟨2, by decide, hw, by rw [hw]; exact (if_neg (by decide)).trans ((if_neg (by decide)).trans ((if_neg (by decide)).trans ((if_neg (by decide)).trans (if_pos rfl))))⟩
      have hw6 : ¬ bW B P N d = nI 6 := by
        rcases hw with hw | hw | hw <;> rw [hw] <;> decide
      have hw24 : nI 2 ≤ bW B P N d ∧ bW B P N d ≤ nI 4 := by
        rcases hw with hw | hw | hw <;> rw [hw] <;> decide
      have hbb : tn (bW B P N d) - 2 = b := by rw [hwb, tn_nI (by omega)]; rfl
      have htt : (if σ1.2.1 708 0 = 0 then bV B P N d else nI (σ1.2.2.1 703 0 b) + bV B P N d) = bT b (bV B P N d) me p := by
        unfold bT
        rw [t11, (t9 b hb3).1]
        by_cases c : me = 0
        · rw [if_pos c, if_neg (fun z => z c)]
        · rw [if_neg c, if_pos c]
      rw [hkb]
      unfold k_aim
      rw [htt]
      generalize hT : bT b (bV B P N d) me p = t at htt ⊢
      have hg2 : gmx b < 2147483647 := by unfold gmx; split <;> decide
      have hr := fb_rng t
      by_cases c3 : ix t (m_lim b + 1)
      · rw [tr_m c0 c1 c2 hw6 hw24 hbb hT c3]
        have n1 : ¬ t < 0 := fun z => by
          have h0 : (0 : Int32).toInt = 0 := rfl
          rw [Int32.lt_iff_toInt_lt, h0] at z
          have := c3.1
          omega
        have n2 : t ≤ nI (gmx b) := by
          rw [fa_le, nI_tz (by omega), gmx_lim]
          have := c3.2
          omega
        rw [if_neg n1, if_pos n2]
        have hT2 : tn t ≤ gmx b := by rw [gmx_lim]; exact Nat.le_of_lt_succ (ix_lt c3)
        have hs2 : SimW B S (wN (wN σ1 704 0 b) 705 0 (tn t)) d (many + 1) P (up1 N (d - 1) (N (d - 1) + 1)) p mo me ki := hadv
        have x4 : (wN (wN σ1 704 0 b) 705 0 (tn t)).1 704 0 = b := by
          show up2 (up2 σ1.1 704 0 b) 705 0 (tn t) 704 0 = b
          rw [up2_n (fun z => absurd z.1 (by decide)), up2_s]
        have x5 : (wN (wN σ1 704 0 b) 705 0 (tn t)).1 705 0 = tn t := wN_sv
        by_cases c4 : p b = tn t
        · obtain ⟨m1, m2⟩ := mvT_0 (mo := mo) (ki := ki) c4
          rw [m1, m2]
          exact gs_at f g d (many + 1) _ P _ p mo me ki b (tn t) hs2 x4 x5 hb3 hT2 c4 (by omega) (by omega)
        · obtain ⟨g, rfl⟩ : ∃ k, g = k + 1 := ⟨g - 1, by omega⟩
          exact gs_go hs2 x4 x5 hb3 hT2 c4 (by omega)
      · rw [tr_t c0 c1 c2 hw6 hw24 hbb hT c3]
        have e7 : (wI σ1 710 0 (nI 1)).2.1 710 0 = nI 1 := wI_sv
        have key : (if t < 0 then wI σ1 710 0 (nI 1) else if t ≤ nI (gmx b) then wN (wN σ1 704 0 b) 705 0 (tn t) else wI σ1 710 0 (nI 1)) = wI σ1 710 0 (nI 1) := by
          by_cases n1 : t < 0
          · exact if_pos n1
          · rw [if_neg n1]
            refine if_neg (fun n2 => c3 ?_)
            have h0 : (0 : Int32).toInt = 0 := rfl
            rw [Int32.lt_iff_toInt_lt, h0] at n1
            rw [fa_le, nI_tz (by omega), gmx_lim] at n2
            exact ⟨by omega, by omega⟩
        rw [key, gs_wr (by rw [e7]; decide)]
        exact ⟨rfl, e7⟩
    · have e1 : k_wv (bW B P N d) (bV B P N d) σ1 = k_chg (bV B P N d) σ1 := by
        rw [hw]
        exact (if_neg (by decide)).trans ((if_neg (by decide)).trans ((if_neg (by decide)).trans ((if_neg (by decide)).trans ((if_neg (by decide)).trans (if_pos rfl)))))
      rw [e1]
      unfold k_chg
      rw [(t9 2 (by decide)).1]
      by_cases c3 : p 2 = 9
      · rw [if_pos c3, tr_s c0 c1 c2 (by rw [hw]; decide) (by rw [hw]; decide) (fun _ => c3), if_pos (by rw [hw]; decide), if_pos (by rw [hw]; decide), if_neg (by rw [hw]; decide)]
        exact gs_at f g d (many + 1) _ P _ p mo me _ a to ⟨t1, t2, t3, t4, t5, t6, t7, t8, t9, t10, t11, wI_sv, t13⟩ h41 h51 ha hto hat (by omega) (by omega)
      · rw [if_neg c3, tr_2 c0 c1 c2 hw c3]
        have e7 : (wI σ1 710 0 (nI 2)).2.1 710 0 = nI 2 := wI_sv
        rw [gs_wr (by rw [e7]; decide)]
        exact ⟨rfl, e7⟩
    · have e1 : k_wv (bW B P N d) (bV B P N d) σ1 = k_ent (bV B P N d) σ1 := by
        rw [hw]
        exact (if_neg (by decide)).trans ((if_neg (by decide)).trans ((if_neg (by decide)).trans ((if_neg (by decide)).trans ((if_neg (by decide)).trans ((if_neg (by decide)).trans (if_pos rfl))))))
      rw [e1, tr_c c0 c1 c2 hw]
      refine gs_at f g (d + 1) (many + 1) _ _ _ p mo me ki a to (sim_call hadv (by omega) hv) ?_ ?_ ha hto hat (by omega) (by omega)
      · rw [← h41]
        unfold k_ent
        split <;> rfl
      · rw [← h51]
        unfold k_ent
        split <;> rfl
/-- one goStep, whatever is still to come -/
theorem gs_tk {B : Nat → Int32} {S : Nat → Nat} {T : List Sp} {c : Int32} {σ : St} (h : TK B S T c σ) : GRw B S (k_gs 601 σ) T c := by
  obtain ⟨f, d, many, P, N, p, mo, me, ki, a, to, h1, h2, h3, h4, h5, h6, rfl, rfl⟩ := h
  by_cases e : p a = to
  · obtain ⟨m1, m2⟩ := mvT_0 (mo := mo) (ki := ki) e
    rw [m1, m2]
    exact gs_at f 601 d many σ P N p mo me ki a to h1 h2 h3 h4 h5 e h6 (by omega)
  · exact gs_go h1 h2 h3 h4 h5 e h6
