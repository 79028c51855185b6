/-! what holds of the law's rows in a run -/
def LI (kr ku km : Nat) (σ : St) : Prop := (36 ≤ σ.2.2.1 902 ku 0 ∧ σ.2.2.1 902 ku 0 < 1000) ∧ (37 ≤ σ.2.2.1 903 km 0 ∧ σ.2.2.1 903 km 0 < 1000) ∧ ix (σ.2.2.2 904 0 0) 12 ∧ ix (σ.2.2.2 904 0 1) 4 ∧ ix (σ.2.2.2 904 0 2) 10 ∧ (0 ≤ σ.2.2.2 904 0 5 → ix (σ.2.2.2 904 0 5) 4) ∧ (∀ i, σ.2.2.1 900 kr i < 2 ^ 62) ∧ (∀ k, k < 4 → ix (σ.2.2.2 902 ku (9 * k + 1)) 600) ∧ (∀ k, k < 4 → ix (σ.2.2.2 902 ku (9 * k + 2)) 1000) ∧ (∀ k, k < 4 → ix (σ.2.2.2 902 ku (9 * k + 3) + nI 200) 401) ∧ ix (σ.2.2.2 903 km 1) 100 ∧ ∀ x, x < 12 → ix (σ.2.2.2 903 km (4 + x) + nI 50) 101
section LIs
variable {kr ku km : Nat} {σ : St}
theorem LI_e (h : LI kr ku km σ) {i : Nat} {v : Int32} (hi : 6 ≤ i) : LI kr ku km (wB σ 904 0 i v) := by
  obtain ⟨h1, h2, h3, h4, h5, h6, h7, h8, h9, h10, h11, h12⟩ := h
  refine ⟨h1, h2, ?_, ?_, ?_, ?_, h7, h8, h9, h10, h11, h12⟩
  · rw [e_ne (by omega)]; exact h3
  · rw [e_ne (by omega)]; exact h4
  · rw [e_ne (by omega)]; exact h5
  · rw [e_ne (by omega)]; exact h6
theorem LI_34 (h : LI kr ku km σ) {i : Nat} {v : Int32} (hi : i = 3 ∨ i = 4) : LI kr ku km (wB σ 904 0 i v) := by
  obtain ⟨h1, h2, h3, h4, h5, h6, h7, h8, h9, h10, h11, h12⟩ := h
  refine ⟨h1, h2, ?_, ?_, ?_, ?_, h7, h8, h9, h10, h11, h12⟩
  · rw [e_ne (by omega)]; exact h3
  · rw [e_ne (by omega)]; exact h4
  · rw [e_ne (by omega)]; exact h5
  · rw [e_ne (by omega)]; exact h6
theorem LI_5 (h : LI kr ku km σ) {v : Int32} (hv : 0 ≤ v → ix v 4) : LI kr ku km (wB σ 904 0 5 v) := by
  obtain ⟨h1, h2, h3, h4, h5, h6, h7, h8, h9, h10, h11, h12⟩ := h
  refine ⟨h1, h2, ?_, ?_, ?_, ?_, h7, h8, h9, h10, h11, h12⟩
  · rw [e_ne (by omega)]; exact h3
  · rw [e_ne (by omega)]; exact h4
  · rw [e_ne (by omega)]; exact h5
  · rw [wB_s, up1_s]; exact hv
/-- how far an axis goes in the law's programs -/
def l2 (a : Nat) : Nat := if a = 0 then 12 else if a = 1 then 4 else 10
theorem LI_l2 (h : LI kr ku km σ) {a : Nat} (ha : a < 3) : ix (σ.2.2.2 904 0 a) (l2 a) := by
  obtain ⟨-, -, h3, h4, h5, -⟩ := h
  rcases (by omega : a = 0 ∨ a = 1 ∨ a = 2) with rfl | rfl | rfl
  · exact h3
  · exact h4
  · exact h5
theorem l2_le (a : Nat) : l2 a ≤ 12 := by
  unfold l2
  split
  · decide
  · split <;> decide
theorem LI_x (h : LI kr ku km σ) {a v : Nat} (ha : a < 3) (hv : v < l2 a) : LI kr ku km (wB σ 904 0 a (nI v)) := by
  obtain ⟨h1, h2, h3, h4, h5, h6, h7, h8, h9, h10, h11, h12⟩ := h
  have hl := l2_le a
  have hv2 : ix (nI v) (l2 a) := (ix_nI (by omega)).mpr hv
  refine ⟨h1, h2, ?_, ?_, ?_, ?_, h7, h8, h9, h10, h11, h12⟩
  · by_cases e : a = 0
    · subst e; rw [wB_s, up1_s]; exact hv2
    · rw [e_ne (by omega)]; exact h3
  · by_cases e : a = 1
    · subst e; rw [wB_s, up1_s]; exact hv2
    · rw [e_ne (by omega)]; exact h4
  · by_cases e : a = 2
    · subst e; rw [wB_s, up1_s]; exact hv2
    · rw [e_ne (by omega)]; exact h5
  · rw [e_ne (by omega)]; exact h6
theorem LI_c (h : LI kr ku km σ) {i v : Nat} (hv : v < 2 ^ 62) : LI kr ku km (wA σ 900 kr i v) := by
  obtain ⟨h1, h2, h3, h4, h5, h6, h7, h8, h9, h10, h11, h12⟩ := h
  refine ⟨h1, h2, h3, h4, h5, h6, fun j => ?_, h8, h9, h10, h11, h12⟩
  rw [wA_s]
  unfold up1
  split
  · exact hv
  · exact h7 j
theorem LI_u (h : LI kr ku km σ) {T v : Nat} (hv : v < 1000) : LI kr ku km (wB σ 902 ku (9 * T + 2) (nI v)) := by
  obtain ⟨h1, h2, h3, h4, h5, h6, h7, h8, h9, h10, h11, h12⟩ := h
  refine ⟨h1, h2, h3, h4, h5, h6, h7, fun k hk => ?_, fun k hk => ?_, fun k hk => ?_, h11, h12⟩
  · rw [e_ne (by omega)]; exact h8 k hk
  · rw [wB_s]
    unfold up1
    split
    · exact (ix_nI (by omega)).mpr hv
    · exact h9 k hk
  · rw [e_ne (by omega)]; exact h10 k hk
theorem LI_m0 (h : LI kr ku km σ) {v : Int32} : LI kr ku km (wB σ 903 km 0 v) := by
  obtain ⟨h1, h2, h3, h4, h5, h6, h7, h8, h9, h10, h11, h12⟩ := h
  refine ⟨h1, h2, h3, h4, h5, h6, h7, h8, h9, h10, ?_, fun x hx => ?_⟩
  · rw [e_ne (by omega)]; exact h11
  · rw [e_ne (by omega)]; exact h12 x hx
theorem LI_m1 (h : LI kr ku km σ) {v : Nat} (hv : v < 100) : LI kr ku km (wB σ 903 km 1 (nI v)) := by
  obtain ⟨h1, h2, h3, h4, h5, h6, h7, h8, h9, h10, h11, h12⟩ := h
  refine ⟨h1, h2, h3, h4, h5, h6, h7, h8, h9, h10, ?_, fun x hx => ?_⟩
  · rw [wB_s, up1_s]; exact (ix_nI (by omega)).mpr hv
  · rw [e_ne (by omega)]; exact h12 x hx
theorem htf_lt {f : Nat → Int32} {its : Int32} : ∀ (n k : Nat), n + k ≤ 4 → 0 ≤ htf f its n k → ¬ f (9 * tn (htf f its n k) + 1) ≤ f (9 * tn (htf f its n k) + 2)
  | 0, k, _, h => absurd h (show ¬ (0 : Int32) ≤ (-1) by decide)
  | n + 1, k, hb, h => by
    unfold htf at h ⊢
    by_cases c : f (9 * k) = its ∧ f (9 * k + 4) = nI 1 ∧ ¬ f (9 * k + 1) ≤ f (9 * k + 2)
    · rw [if_pos c, tn_nI (by omega)]; exact c.2.2
    · rw [if_neg c] at h ⊢
      exact htf_lt n (k + 1) (by omega) h
theorem cell_lt {c off wr er z : Nat} (h1 : off < 401) (h2 : wr < 250) (h3 : er * 16 < 67108864) (h4 : z < 16) : c / 17592186044416 % 16 * 17592186044416 + (off * 17179869184 + (wr * 67108864 + (er * 16 + z))) < 2 ^ 62 := by omega
set_option maxHeartbeats 1000000 in
theorem LI_step (h : LI kr ku km σ) (fr : Nat) (t9 : Int32) : LI kr ku km (h_step kr ku km fr t9 σ).2 := by
  have hh := h
  obtain ⟨h1, h2, h3, h4, h5, h6, h7, h8, h9, h10, h11, h12⟩ := hh
  have b2 := ix_lt h5
  have b0 := ix_lt h3
  have b11 := ix_lt h11
  unfold h_step
  generalize 12 * tn (σ.2.2.2 904 0 1) + tn (σ.2.2.2 904 0 0) = C
  have hC := h7 C
  generalize hc : σ.2.2.1 900 kr C = cc at hC ⊢
  split
  · exact LI_e h (by omega)
  · split
    · exact h
    · split
      · exact LI_e h (by omega)
      · split
        · exact h
        · split
          · split
            · refine LI_e (LI_c (LI_e h (by omega)) ?_) (by omega)
              omega
            · split
              · rename_i c
                have hT := ix_lt (htf_ix 4 0 (by decide) (le_nlt c))
                have hl := htf_lt 4 0 (by decide) c
                generalize tn (htf (σ.2.2.2 902 ku) (σ.2.2.2 904 0 5) 4 0) = T at hT hl ⊢
                have hU1 := h8 T hT
                have hU2 := h9 T hT
                have hU3 := ix_lt (h10 T hT)
                have hM := ix_lt (h12 _ b0)
                have hlt : tn (σ.2.2.2 902 ku (9 * T + 2)) < tn (σ.2.2.2 902 ku (9 * T + 1)) := by
                  rw [fa_le] at hl
                  unfold tn
                  have := hU1.1
                  have := hU2.1
                  omega
                have hb := ix_lt hU1
                have hw9 : tn (σ.2.2.2 903 km 1) * tn (σ.2.2.2 904 0 0) ≤ 99 * 11 := Nat.mul_le_mul (by omega) (by omega)
                refine LI_e (LI_m1 (LI_m0 (LI_u (LI_c (LI_c (LI_e h (by omega)) ?_) (cell_lt hU3 ?_ ?_ ?_)) ?_)) ?_) (by omega)
                · omega
                · omega
                · omega
                · omega
                · omega
                · split <;> omega
              · exact h
          · exact h
/-- what a step keeps of the run's row -/
theorem st_fr (h6 : 0 ≤ σ.2.2.2 904 0 5 → ix (σ.2.2.2 904 0 5) 4) (fr : Nat) (t9 : Int32) {j : Nat} (hj : j ≠ 6) (hj2 : j < 8 ∨ 12 ≤ j) : (h_step kr ku km fr t9 σ).2.2.2.2 904 0 j = σ.2.2.2 904 0 j := by
  have e8 : ∀ (X : St) (v w : Int32), 0 ≤ σ.2.2.2 904 0 5 → (∀ i, X.2.2.2 904 0 i = (wB σ 904 0 (8 + tn (σ.2.2.2 904 0 5)) v).2.2.2 904 0 i) → (wB X 904 0 6 w).2.2.2 904 0 j = σ.2.2.2 904 0 j := fun X v w c hX => by
    have := ix_lt (h6 c)
    rw [e_ne hj, hX, e_ne (by omega)]
  unfold h_step
  split
  · exact e_ne hj
  · split
    · rfl
    · split
      · exact e_ne hj
      · split
        · rfl
        · split
          · rename_i c5
            split
            · exact e8 _ _ _ c5 (fun _ => rfl)
            · split
              · exact e8 _ _ _ c5 (fun _ => rfl)
              · rfl
          · rfl
theorem st_g (fr : Nat) (t9 : Int32) : (h_step kr ku km fr t9 σ).2.2.2.2 901 = σ.2.2.2 901 := by
  unfold h_step
  repeat' split
  all_goals rfl
theorem st_6 (h : LI kr ku km σ) (hb : ix (σ.2.2.2 904 0 6) 99999) (fr : Nat) (t9 : Int32) : ix ((h_step kr ku km fr t9 σ).2.2.2.2 904 0 6) (tn (σ.2.2.2 904 0 6) + 2) := by
  have h9 := ix_lt hb
  have e1 : ∀ (X : St), ix ((wB X 904 0 6 (nI (tn (σ.2.2.2 904 0 6) + 1))).2.2.2 904 0 6) (tn (σ.2.2.2 904 0 6) + 2) := fun X => by
    rw [wB_s, up1_s]
    exact (ix_nI (by omega)).mpr (by omega)
  have e2 : ix (σ.2.2.2 904 0 6) (tn (σ.2.2.2 904 0 6) + 2) := by
    obtain ⟨a, b⟩ := hb
    refine ⟨a, ?_⟩
    unfold tn
    omega
  unfold h_step
  split
  · exact e1 _
  · split
    · exact e2
    · split
      · exact e1 _
      · split
        · exact e2
        · split
          · split
            · exact e1 _
            · split
              · exact e1 _
              · exact e2
          · exact e2
end LIs
/-- a move: step by step to its goal -/
def h_mv (kr ku km fr : Nat) (t9 : Int32) (a to : Nat) : Nat → St → Int32 × St
  | 0, σ => (nI 0, σ)
  | f + 1, σ => if (h_step kr ku km fr t9 (wB σ 904 0 a (nI (m_nx (tn (σ.2.2.2 904 0 a)) to)))).1 = 0 then h_mv kr ku km fr t9 a to f (h_step kr ku km fr t9 (wB σ 904 0 a (nI (m_nx (tn (σ.2.2.2 904 0 a)) to)))).2 else h_step kr ku km fr t9 (wB σ 904 0 a (nI (m_nx (tn (σ.2.2.2 904 0 a)) to)))
def h_by (a : Nat) (v : Int32) (σ : St) : Int32 := if ¬ σ.2.2.2 904 0 4 = 0 then v else v - σ.2.2.2 904 0 a
def h_tg (a : Nat) (v : Int32) (σ : St) : Int32 := σ.2.2.2 904 0 a + h_by a v σ
def h_move (kr ku km fr : Nat) (t9 : Int32) (a : Nat) (v : Int32) (σ : St) : Int32 × St := if ix (h_tg a v σ) (m_lim a + 1) then h_mv kr ku km fr t9 a (tn (h_tg a v σ)) (m_dist (tn (σ.2.2.2 904 0 a)) (tn (h_tg a v σ))) σ else (nI 1, σ)
theorem by_eq {x b : Int32} {to n : Nat} (h : x + b = nI to) (hx : x = nI n) : b = nI to - nI n := by
  subst hx
  rw [← h, Int32.add_comm, Int32.add_sub_cancel]
theorem by_z {a b : Nat} (ha : a < 100) (hb : b < 100) : nI a - nI b = 0 ↔ b = a := by
  have h := pk_sub_toInt (a := a) (b := b) (by omega) (by omega)
  rw [fa_eq, h]
  show (a : Int) - b = 0 ↔ _
  omega
theorem by_le {a b : Nat} (ha : a < 100) (hb : b < 100) : nI a - nI b ≤ 0 ↔ a ≤ b := by
  have h := pk_sub_toInt (a := a) (b := b) (by omega) (by omega)
  rw [fa_le, h]
  show (a : Int) - b ≤ 0 ↔ _
  omega
theorem by_nx {x to : Nat} {X : Int32} (hX : X = nI x) (hx : x < 100) (ht : to < 100) (h : ¬ nI to - nI x = 0) : X + (if nI to - nI x ≤ 0 then (-1) else nI 1) = nI (m_nx x to) := by
  subst hX
  have h1 := mt (by_z ht hx).mpr h
  have e : (if nI to - nI x ≤ 0 then (-1 : Int32) else nI 1) = if to ≤ x then (-1) else nI 1 := by
    by_cases c : to ≤ x
    · rw [if_pos c, if_pos ((by_le ht hx).mpr c)]
    · rw [if_neg c, if_neg (mt (by_le ht hx).mp c)]
  rw [e]
  exact stp hx h1
theorem by_nb {x to : Nat} (hx : x < 100) (ht : to < 100) (h : ¬ nI to - nI x = 0) : (nI to - nI x) + (if nI to - nI x ≤ 0 then nI 1 else (-1)) = nI to - nI (m_nx x to) := by
  have h1 := mt (by_z ht hx).mpr h
  have h2 := by_le ht hx
  unfold m_nx
  by_cases c : to ≤ x
  · rw [if_pos (h2.mpr c), if_pos c]
    obtain ⟨z, rfl⟩ : ∃ z, x = z + 1 := ⟨x - 1, by omega⟩
    show _ = nI to - nI z
    apply Int32.toInt_inj.mp
    have a1 := pk_sub_toInt (a := to) (b := z + 1) (by omega) (by omega)
    have a2 := pk_sub_toInt (a := to) (b := z) (by omega) (by omega)
    have a3 : (nI 1).toInt = 1 := by decide
    rw [fb_addI (by rw [a1, a3]; omega) (by rw [a1, a3]; omega), a1, a2, a3]
    omega
  · rw [if_neg (mt h2.mp c), if_neg c]
    apply Int32.toInt_inj.mp
    have a1 := pk_sub_toInt (a := to) (b := x) (by omega) (by omega)
    have a2 := pk_sub_toInt (a := to) (b := x + 1) (by omega) (by omega)
    have a3 : (-1 : Int32).toInt = -1 := by decide
    rw [fb_addI (by rw [a1, a3]; omega) (by rw [a1, a3]; omega), a1, a2, a3]
    omega
theorem ix_le {v : Int32} {n : Nat} (hn : n < 100) (h0 : ¬ v < 0) (h1 : v ≤ nI n) : ix v (n + 1) := by
  rw [fa_lt] at h0
  rw [fa_le, nI_tz (by omega)] at h1
  have e0 : (0 : Int32).toInt = 0 := by decide
  rw [e0] at h0
  exact ⟨by omega, by omega⟩
theorem ix_no {v : Int32} {n : Nat} (hn : n < 100) (h : v < 0 ∨ ¬ v ≤ nI n) : ¬ ix v (n + 1) := fun z => by
  obtain ⟨a, b⟩ := z
  rw [fa_lt, fa_le, nI_tz (by omega)] at h
  have e0 : (0 : Int32).toInt = 0 := by decide
  rw [e0] at h
  omega
theorem nx_lt {x to b : Nat} (hx : x < b) (ht : to < b) (h : ¬ x = to) : m_nx x to < b := by
  unfold m_nx
  split <;> omega
theorem ix_up {v : Int32} {n m : Nat} (h : ix v n) (hm : n ≤ m) : ix v m := ⟨h.1, by have := h.2; omega⟩
