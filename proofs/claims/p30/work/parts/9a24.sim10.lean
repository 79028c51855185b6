/-! a cell's numbers -/
set_option maxHeartbeats 1000000 in
theorem cau_k {f : Nat → Int32} {k : Nat} {j v : Int32} (h : cau f k = (j, v)) (c : isz (f k) ≤ v) : cau f (k + 1) = (j, v) := by
  unfold cau
  rw [h]
  exact if_pos c
set_option maxHeartbeats 1000000 in
theorem cau_n {f : Nat → Int32} {k : Nat} {j v : Int32} (h : cau f k = (j, v)) (c : ¬ isz (f k) ≤ v) : cau f (k + 1) = (nI k, isz (f k)) := by
  unfold cau
  rw [h]
  exact if_neg c
set_option maxHeartbeats 1000000 in
theorem isz_b {x : Int32} (h : -1000 ≤ x.toInt ∧ x.toInt ≤ 1000) : 0 ≤ (isz x).toInt ∧ ((isz x).toInt = 0 ↔ x = 0) := by
  have z0 : (0 : Int32).toInt = 0 := rfl
  have e0 : x = 0 ↔ x.toInt = 0 := ⟨fun z => by rw [z]; rfl, fun z => Int32.toInt_inj.mp (z.trans z0.symm)⟩
  unfold isz
  rw [e0]
  by_cases c : x < 0
  · rw [if_pos c]
    have c' : x.toInt < 0 := Int32.lt_iff_toInt_lt.mp c
    have e : (-x).toInt = - x.toInt := by
      rw [Int32.toInt_neg]
      exact Int.bmod_eq_of_le (by omega) (by omega)
    rw [e]
    exact ⟨by omega, by omega⟩
  · rw [if_neg c]
    have c' : ¬ x.toInt < 0 := fun z => c (Int32.lt_iff_toInt_lt.mpr z)
    exact ⟨by omega, Iff.rfl⟩
set_option maxHeartbeats 1000000 in
theorem nI_sI {a b : Nat} (ha : a < 2000) (hb : b < 2000) : (nI a - nI b).toInt = (a : Int) - b := by
  rw [Int32.toInt_sub, nI_tz (by omega), nI_tz (by omega)]
  exact Int.bmod_eq_of_le (by omega) (by omega)
set_option maxHeartbeats 1000000 in
theorem hp_b (c : Nat) : (-1000 ≤ (hp0 c).toInt ∧ (hp0 c).toInt ≤ 1000) ∧ (-1000 ≤ (hp1 c).toInt ∧ (hp1 c).toInt ≤ 1000) ∧ (-1000 ≤ (hp2 c).toInt ∧ (hp2 c).toInt ≤ 1000) ∧ (-1000 ≤ (hp3 c).toInt ∧ (hp3 c).toInt ≤ 1000) := by
  have b0 : c / 1024 % 256 < 256 := Nat.mod_lt _ (by decide)
  have b1 : c / 262144 % 256 < 256 := Nat.mod_lt _ (by decide)
  have b2 : c / 67108864 % 256 < 256 := Nat.mod_lt _ (by decide)
  have b3 : c / 17179869184 % 1024 < 1024 := Nat.mod_lt _ (by decide)
  unfold hp0 hp1 hp2 hp3
  generalize c / 1024 % 256 = x0 at *
  generalize c / 262144 % 256 = x1 at *
  generalize c / 67108864 % 256 = x2 at *
  generalize c / 17179869184 % 1024 = x3 at *
  by_cases z : c / 16 % 64 = 0
  · rw [if_pos z, if_pos z, if_pos z, if_pos z]; decide
  · rw [if_neg z, if_neg z, if_neg z, if_neg z, nI_sI (by omega) (by omega), nI_sI (by omega) (by omega), nI_tz (by omega), nI_tz (by omega)]
    omega
def h_cz (a b c d : Int32) : Int32 := if (isz c) < (isz d) then (if (isz b) < (isz d) then (if (isz a) < (isz d) then (if ¬ d = 0 then (nI 3) else ((-1))) else (if ¬ a = 0 then (nI 0) else ((-1)))) else (if (isz a) < (isz b) then (if ¬ b = 0 then (nI 1) else ((-1))) else (if ¬ a = 0 then (nI 0) else ((-1))))) else (if (isz b) < (isz c) then (if (isz a) < (isz c) then (if ¬ c = 0 then (nI 2) else ((-1))) else (if ¬ a = 0 then (nI 0) else ((-1)))) else (if (isz a) < (isz b) then (if ¬ b = 0 then (nI 1) else ((-1))) else (if ¬ a = 0 then (nI 0) else ((-1)))))
set_option maxHeartbeats 1000000 in
theorem cz_leaf {A B C D r : Int32} {a b c d : Int} (ha : A = 0 ↔ a = 0) (hb : B = 0 ↔ b = 0) (hc : C = 0 ↔ c = 0) (hd : D = 0 ↔ d = 0) (ia : (isz A).toInt = a) (ib : (isz B).toInt = b) (ic : (isz C).toInt = c) (id9 : (isz D).toInt = d) (pa : 0 ≤ a) (pb : 0 ≤ b) (pc9 : 0 ≤ c) (pd : 0 ≤ d)
    (h : (r = (-1) ∧ a = 0 ∧ b = 0 ∧ c = 0 ∧ d = 0) ∨ (r = nI 0 ∧ 0 < a ∧ b ≤ a ∧ c ≤ a ∧ d ≤ a) ∨ (r = nI 1 ∧ 0 < b ∧ a < b ∧ c ≤ b ∧ d ≤ b) ∨ (r = nI 2 ∧ 0 < c ∧ a < c ∧ b < c ∧ d ≤ c) ∨ (r = nI 3 ∧ 0 < d ∧ a < d ∧ b < d ∧ c < d)) : h_cz A B C D = r := by
  unfold h_cz
  simp only [Int32.lt_iff_toInt_lt, ia, ib, ic, id9, ha, hb, hc, hd]
  clear ia ib ic id9 ha hb hc hd
  rcases h with ⟨rfl, h⟩ | ⟨rfl, h⟩ | ⟨rfl, h⟩ | ⟨rfl, h⟩ | ⟨rfl, h⟩
  all_goals repeat' split
  all_goals first | rfl | (exfalso; omega)
set_option maxHeartbeats 1000000 in
theorem cause_c {f : Nat → Int32} (h0 : -1000 ≤ (f 0).toInt ∧ (f 0).toInt ≤ 1000) (h1 : -1000 ≤ (f 1).toInt ∧ (f 1).toInt ≤ 1000) (h2 : -1000 ≤ (f 2).toInt ∧ (f 2).toInt ≤ 1000) (h3 : -1000 ≤ (f 3).toInt ∧ (f 3).toInt ≤ 1000) : h_cz (f 0) (f 1) (f 2) (f 3) = (cau f 4).1 := by
  obtain ⟨p0, e0⟩ := isz_b h0
  obtain ⟨p1, e1⟩ := isz_b h1
  obtain ⟨p2, e2⟩ := isz_b h2
  obtain ⟨p3, e3⟩ := isz_b h3
  have z0 : (nI 0).toInt = 0 := rfl
  have k0 : cau f 0 = (-1, nI 0) := rfl
  refine cz_leaf e0.symm e1.symm e2.symm e3.symm rfl rfl rfl rfl p0 p1 p2 p3 ?_
  clear e0 e1 e2 e3 h0 h1 h2 h3
  by_cases c0 : isz (f 0) ≤ nI 0
  · have k1 := cau_k k0 c0
    rw [Int32.le_iff_toInt_le, z0] at c0
    by_cases c1 : isz (f 1) ≤ nI 0
    · have k2 := cau_k k1 c1
      rw [Int32.le_iff_toInt_le, z0] at c1
      by_cases c2 : isz (f 2) ≤ nI 0
      · have k3 := cau_k k2 c2
        rw [Int32.le_iff_toInt_le, z0] at c2
        by_cases c3 : isz (f 3) ≤ nI 0
        · have k4 := cau_k k3 c3
          rw [Int32.le_iff_toInt_le, z0] at c3
          rw [k4]
          exact (by first | exact Or.inl ⟨rfl, by omega⟩ | exact Or.inr (Or.inl ⟨rfl, by omega⟩) | exact Or.inr (Or.inr (Or.inl ⟨rfl, by omega⟩)) | exact Or.inr (Or.inr (Or.inr (Or.inl ⟨rfl, by omega⟩))) | exact Or.inr (Or.inr (Or.inr (Or.inr ⟨rfl, by omega⟩))))
        · have k4 := cau_n k3 c3
          rw [Int32.le_iff_toInt_le, z0] at c3
          rw [k4]
          exact (by first | exact Or.inl ⟨rfl, by omega⟩ | exact Or.inr (Or.inl ⟨rfl, by omega⟩) | exact Or.inr (Or.inr (Or.inl ⟨rfl, by omega⟩)) | exact Or.inr (Or.inr (Or.inr (Or.inl ⟨rfl, by omega⟩))) | exact Or.inr (Or.inr (Or.inr (Or.inr ⟨rfl, by omega⟩))))
      · have k3 := cau_n k2 c2
        rw [Int32.le_iff_toInt_le, z0] at c2
        by_cases c3 : isz (f 3) ≤ isz (f 2)
        · have k4 := cau_k k3 c3
          rw [Int32.le_iff_toInt_le] at c3
          rw [k4]
          exact (by first | exact Or.inl ⟨rfl, by omega⟩ | exact Or.inr (Or.inl ⟨rfl, by omega⟩) | exact Or.inr (Or.inr (Or.inl ⟨rfl, by omega⟩)) | exact Or.inr (Or.inr (Or.inr (Or.inl ⟨rfl, by omega⟩))) | exact Or.inr (Or.inr (Or.inr (Or.inr ⟨rfl, by omega⟩))))
        · have k4 := cau_n k3 c3
          rw [Int32.le_iff_toInt_le] at c3
          rw [k4]
          exact (by first | exact Or.inl ⟨rfl, by omega⟩ | exact Or.inr (Or.inl ⟨rfl, by omega⟩) | exact Or.inr (Or.inr (Or.inl ⟨rfl, by omega⟩)) | exact Or.inr (Or.inr (Or.inr (Or.inl ⟨rfl, by omega⟩))) | exact Or.inr (Or.inr (Or.inr (Or.inr ⟨rfl, by omega⟩))))
    · have k2 := cau_n k1 c1
      rw [Int32.le_iff_toInt_le, z0] at c1
      by_cases c2 : isz (f 2) ≤ isz (f 1)
      · have k3 := cau_k k2 c2
        rw [Int32.le_iff_toInt_le] at c2
        by_cases c3 : isz (f 3) ≤ isz (f 1)
        · have k4 := cau_k k3 c3
          rw [Int32.le_iff_toInt_le] at c3
          rw [k4]
          exact (by first | exact Or.inl ⟨rfl, by omega⟩ | exact Or.inr (Or.inl ⟨rfl, by omega⟩) | exact Or.inr (Or.inr (Or.inl ⟨rfl, by omega⟩)) | exact Or.inr (Or.inr (Or.inr (Or.inl ⟨rfl, by omega⟩))) | exact Or.inr (Or.inr (Or.inr (Or.inr ⟨rfl, by omega⟩))))
        · have k4 := cau_n k3 c3
          rw [Int32.le_iff_toInt_le] at c3
          rw [k4]
          exact (by first | exact Or.inl ⟨rfl, by omega⟩ | exact Or.inr (Or.inl ⟨rfl, by omega⟩) | exact Or.inr (Or.inr (Or.inl ⟨rfl, by omega⟩)) | exact Or.inr (Or.inr (Or.inr (Or.inl ⟨rfl, by omega⟩))) | exact Or.inr (Or.inr (Or.inr (Or.inr ⟨rfl, by omega⟩))))
      · have k3 := cau_n k2 c2
        rw [Int32.le_iff_toInt_le] at c2
        by_cases c3 : isz (f 3) ≤ isz (f 2)
        · have k4 := cau_k k3 c3
          rw [Int32.le_iff_toInt_le] at c3
          rw [k4]
          exact (by first | exact Or.inl ⟨rfl, by omega⟩ | exact Or.inr (Or.inl ⟨rfl, by omega⟩) | exact Or.inr (Or.inr (Or.inl ⟨rfl, by omega⟩)) | exact Or.inr (Or.inr (Or.inr (Or.inl ⟨rfl, by omega⟩))) | exact Or.inr (Or.inr (Or.inr (Or.inr ⟨rfl, by omega⟩))))
        · have k4 := cau_n k3 c3
          rw [Int32.le_iff_toInt_le] at c3
          rw [k4]
          exact (by first | exact Or.inl ⟨rfl, by omega⟩ | exact Or.inr (Or.inl ⟨rfl, by omega⟩) | exact Or.inr (Or.inr (Or.inl ⟨rfl, by omega⟩)) | exact Or.inr (Or.inr (Or.inr (Or.inl ⟨rfl, by omega⟩))) | exact Or.inr (Or.inr (Or.inr (Or.inr ⟨rfl, by omega⟩))))
  · have k1 := cau_n k0 c0
    rw [Int32.le_iff_toInt_le, z0] at c0
    by_cases c1 : isz (f 1) ≤ isz (f 0)
    · have k2 := cau_k k1 c1
      rw [Int32.le_iff_toInt_le] at c1
      by_cases c2 : isz (f 2) ≤ isz (f 0)
      · have k3 := cau_k k2 c2
        rw [Int32.le_iff_toInt_le] at c2
        by_cases c3 : isz (f 3) ≤ isz (f 0)
        · have k4 := cau_k k3 c3
          rw [Int32.le_iff_toInt_le] at c3
          rw [k4]
          exact (by first | exact Or.inl ⟨rfl, by omega⟩ | exact Or.inr (Or.inl ⟨rfl, by omega⟩) | exact Or.inr (Or.inr (Or.inl ⟨rfl, by omega⟩)) | exact Or.inr (Or.inr (Or.inr (Or.inl ⟨rfl, by omega⟩))) | exact Or.inr (Or.inr (Or.inr (Or.inr ⟨rfl, by omega⟩))))
        · have k4 := cau_n k3 c3
          rw [Int32.le_iff_toInt_le] at c3
          rw [k4]
          exact (by first | exact Or.inl ⟨rfl, by omega⟩ | exact Or.inr (Or.inl ⟨rfl, by omega⟩) | exact Or.inr (Or.inr (Or.inl ⟨rfl, by omega⟩)) | exact Or.inr (Or.inr (Or.inr (Or.inl ⟨rfl, by omega⟩))) | exact Or.inr (Or.inr (Or.inr (Or.inr ⟨rfl, by omega⟩))))
      · have k3 := cau_n k2 c2
        rw [Int32.le_iff_toInt_le] at c2
        by_cases c3 : isz (f 3) ≤ isz (f 2)
        · have k4 := cau_k k3 c3
          rw [Int32.le_iff_toInt_le] at c3
          rw [k4]
          exact (by first | exact Or.inl ⟨rfl, by omega⟩ | exact Or.inr (Or.inl ⟨rfl, by omega⟩) | exact Or.inr (Or.inr (Or.inl ⟨rfl, by omega⟩)) | exact Or.inr (Or.inr (Or.inr (Or.inl ⟨rfl, by omega⟩))) | exact Or.inr (Or.inr (Or.inr (Or.inr ⟨rfl, by omega⟩))))
        · have k4 := cau_n k3 c3
          rw [Int32.le_iff_toInt_le] at c3
          rw [k4]
          exact (by first | exact Or.inl ⟨rfl, by omega⟩ | exact Or.inr (Or.inl ⟨rfl, by omega⟩) | exact Or.inr (Or.inr (Or.inl ⟨rfl, by omega⟩)) | exact Or.inr (Or.inr (Or.inr (Or.inl ⟨rfl, by omega⟩))) | exact Or.inr (Or.inr (Or.inr (Or.inr ⟨rfl, by omega⟩))))
    · have k2 := cau_n k1 c1
      rw [Int32.le_iff_toInt_le] at c1
      by_cases c2 : isz (f 2) ≤ isz (f 1)
      · have k3 := cau_k k2 c2
        rw [Int32.le_iff_toInt_le] at c2
        by_cases c3 : isz (f 3) ≤ isz (f 1)
        · have k4 := cau_k k3 c3
          rw [Int32.le_iff_toInt_le] at c3
          rw [k4]
          exact (by first | exact Or.inl ⟨rfl, by omega⟩ | exact Or.inr (Or.inl ⟨rfl, by omega⟩) | exact Or.inr (Or.inr (Or.inl ⟨rfl, by omega⟩)) | exact Or.inr (Or.inr (Or.inr (Or.inl ⟨rfl, by omega⟩))) | exact Or.inr (Or.inr (Or.inr (Or.inr ⟨rfl, by omega⟩))))
        · have k4 := cau_n k3 c3
          rw [Int32.le_iff_toInt_le] at c3
          rw [k4]
          exact (by first | exact Or.inl ⟨rfl, by omega⟩ | exact Or.inr (Or.inl ⟨rfl, by omega⟩) | exact Or.inr (Or.inr (Or.inl ⟨rfl, by omega⟩)) | exact Or.inr (Or.inr (Or.inr (Or.inl ⟨rfl, by omega⟩))) | exact Or.inr (Or.inr (Or.inr (Or.inr ⟨rfl, by omega⟩))))
      · have k3 := cau_n k2 c2
        rw [Int32.le_iff_toInt_le] at c2
        by_cases c3 : isz (f 3) ≤ isz (f 2)
        · have k4 := cau_k k3 c3
          rw [Int32.le_iff_toInt_le] at c3
          rw [k4]
          exact (by first | exact Or.inl ⟨rfl, by omega⟩ | exact Or.inr (Or.inl ⟨rfl, by omega⟩) | exact Or.inr (Or.inr (Or.inl ⟨rfl, by omega⟩)) | exact Or.inr (Or.inr (Or.inr (Or.inl ⟨rfl, by omega⟩))) | exact Or.inr (Or.inr (Or.inr (Or.inr ⟨rfl, by omega⟩))))
        · have k4 := cau_n k3 c3
          rw [Int32.le_iff_toInt_le] at c3
          rw [k4]
          exact (by first | exact Or.inl ⟨rfl, by omega⟩ | exact Or.inr (Or.inl ⟨rfl, by omega⟩) | exact Or.inr (Or.inr (Or.inl ⟨rfl, by omega⟩)) | exact Or.inr (Or.inr (Or.inr (Or.inl ⟨rfl, by omega⟩))) | exact Or.inr (Or.inr (Or.inr (Or.inr ⟨rfl, by omega⟩))))
set_option maxHeartbeats 1000000 in
theorem h_cause_z (c : Nat) : h_cause c = h_cz (hp0 c) (hp1 c) (hp2 c) (hp3 c) := rfl
set_option maxHeartbeats 1000000 in
theorem QE.size {C i : Nat} {τ : St} (h : QE C i τ) : h_size C = msz i τ := by
  obtain ⟨⟨h1, h2, h3⟩, h4, h5⟩ := h
  unfold h_size msz
  have e : nI (1000 * (C % 16)) = nI 1000 * nI (C % 16) := (pk_mul _ _).symm
  rw [e, h4]
  by_cases z : C / 16 % 64 = 0
  · have z9 : τ.2.2.2 917 0 i = (-1) := by
      rw [z] at h2
      have : τ.2.2.2 917 0 i = nI 0 - 1 := by rw [h2]; exact (Int32.add_sub_cancel _ _).symm
      rw [this]; decide
    rw [if_pos z9]
    unfold hp0 hp1 hp2 hp3
    rw [if_pos z, if_pos z, if_pos z, if_pos z]
    show _ + 0 + 0 + 0 + 0 = _
    rw [Int32.add_zero, Int32.add_zero, Int32.add_zero, Int32.add_zero]
  · have z9 : ¬ τ.2.2.2 917 0 i = (-1) := fun y => by
      rw [y] at h2
      have b : C / 16 % 64 < 64 := Nat.mod_lt _ (by decide)
      exact z ((nI_eq (by omega) (by omega)).mp (h2.trans (by decide : (-1 : Int32) + 1 = nI 0)))
    obtain ⟨g0, g1, g2, g3⟩ := h3 z
    rw [if_neg z9, g0, g1, g2, g3]
    rfl
set_option maxHeartbeats 1000000 in
theorem QE.cause {C i : Nat} {τ : St} (h : QE C i τ) : h_cause C = mcau i τ := by
  obtain ⟨⟨h1, h2, h3⟩, h4, h5⟩ := h
  unfold mcau
  have b := hp_b C
  by_cases z : C / 16 % 64 = 0
  · have z9 : τ.2.2.2 917 0 i = (-1) := by
      rw [z] at h2
      have : τ.2.2.2 917 0 i = nI 0 - 1 := by rw [h2]; exact (Int32.add_sub_cancel _ _).symm
      rw [this]; decide
    rw [if_pos z9, h_cause_z]
    unfold hp0 hp1 hp2 hp3
    rw [if_pos z, if_pos z, if_pos z, if_pos z]
    decide
  · have z9 : ¬ τ.2.2.2 917 0 i = (-1) := fun y => by
      rw [y] at h2
      have b : C / 16 % 64 < 64 := Nat.mod_lt _ (by decide)
      exact z ((nI_eq (by omega) (by omega)).mp (h2.trans (by decide : (-1 : Int32) + 1 = nI 0)))
    obtain ⟨g0, g1, g2, g3⟩ := h3 z
    rw [if_neg z9, h_cause_z]
    rw [g0, g1, g2, g3] at b ⊢
    exact cause_c (f := fun j => τ.2.2.2 918 0 (4 * i + j)) b.1 b.2.1 b.2.2.1 b.2.2.2
set_option maxHeartbeats 1000000 in
theorem QE.tool {C i : Nat} {τ : St} (h : QE C i τ) : nI (C / 16 % 64) - nI 1 = τ.2.2.2 917 0 i := by
  rw [h.1.2.1]
  exact Int32.add_sub_cancel _ _
def h_cell (k C : Nat) : Int32 := if k = 0 then nI (C % 16) else if k = 1 then h_size C else if k = 2 then nI (C / 16 % 64) - nI 1 else if k = 3 then h_cause C else nI (C / 17592186044416 % 16)
set_option maxHeartbeats 1000000 in
theorem hc_0 (C : Nat) : h_cell 0 C = nI (C % 16) := if_pos rfl
set_option maxHeartbeats 1000000 in
theorem hc_1 (C : Nat) : h_cell 1 C = h_size C := by unfold h_cell; rw [if_neg (by decide), if_pos rfl]
set_option maxHeartbeats 1000000 in
theorem hc_2 (C : Nat) : h_cell 2 C = nI (C / 16 % 64) - nI 1 := by unfold h_cell; rw [if_neg (by decide), if_neg (by decide), if_pos rfl]
set_option maxHeartbeats 1000000 in
theorem hc_3 (C : Nat) : h_cell 3 C = h_cause C := by unfold h_cell; rw [if_neg (by decide), if_neg (by decide), if_neg (by decide), if_pos rfl]
set_option maxHeartbeats 1000000 in
theorem hc_4 (C : Nat) : h_cell 4 C = nI (C / 17592186044416 % 16) := by unfold h_cell; rw [if_neg (by decide), if_neg (by decide), if_neg (by decide), if_neg (by decide)]
section QR2
variable {D : va_G} {cI cZ cO : ClassId} {t0 mi : Nat} {l : Launch} {K : Nat} {σ τ ρ : St}
set_option maxHeartbeats 1000000 in
theorem Q_ofCell (hl9 : l.stackTraces = false) (hR : Rl wr0 σ τ) (hJ : JJ K ρ τ) {p x y k : Nat} (hp : p < 2) (hx : x < 12) (hy : y < 4) (hk : k < 5) : ∃ σ' τ', (∀ (L : Lay) (ow : Nat → Prop), YI D cI cZ cO t0 mi l yX8_ofCell cX8_ofCell 7 (some FieldType.int) 7 142 3 18 [.ref (L 899 0), .int (nI p), .int (nI x), .int (nI y), .int (nI k)] L σ ow 0 (h_cell k (ρ.2.2.1 900 p (12 * y + x))) σ') ∧ Rl wr0 σ' τ' ∧ JJ K ρ τ' := by
  have hA := hJ.2.2.1
  have q := (hA.2 p hp).2 (12 * y + x) (by omega)
  have g : (ix (nI p) (τ.1 924 0) ∧ ix (nI x) 12 ∧ ix (nI y) 12) ∧ ix (nI k) 5 ∧ True := ⟨⟨by rw [hA.1]; exact ixz hp (by decide), ixz hx (by decide), ixz (by omega) (by decide)⟩, ixz hk (by decide), trivial⟩
  have e : (m_ofCell (nI p) (nI x) (nI y) (nI k) τ).1 = (h_cell k (ρ.2.2.1 900 p (12 * y + x))) ∧ (m_ofCell (nI p) (nI x) (nI y) (nI k) τ).2 = wI τ 944 0 (nI 0) := by
    unfold m_ofCell
    rw [mg_0 g, if_pos g, tz (by omega : p < 1000), tz (by omega : x < 1000), tz (by omega : y < 1000), Nat.add_assoc]
    rcases (by omega : k = 0 ∨ k = 1 ∨ k = 2 ∨ k = 3 ∨ k = 4) with rfl | rfl | rfl | rfl | rfl
    · rw [hc_0, q.2.1]; exact ⟨rfl, rfl⟩
    · rw [hc_1, q.size]; exact ⟨rfl, rfl⟩
    · rw [hc_2, q.tool]; exact ⟨rfl, rfl⟩
    · rw [hc_3, q.cause]; exact ⟨rfl, rfl⟩
    · rw [hc_4, q.2.2]; exact ⟨rfl, rfl⟩
  obtain ⟨σ', h1, h2⟩ := oq_ofCell (D := D) (cI := cI) (cZ := cZ) (cO := cO) (t0 := t0) (mi := mi) hl9 hR (nI p) (nI x) (nI y) (nI k) (by rw [e.2]; exact t944)
  rw [e.1] at h1
  rw [e.2] at h2
  exact ⟨σ', _, h1, h2, hJ.tau w944⟩
set_option maxHeartbeats 1000000 in
theorem Q_prove (hl9 : l.stackTraces = false) (hR : Rl wr0 σ τ) (hJ : JJ K ρ τ) {p pr : Nat} (hp : p < 2) (hpr : pr < 3) : ∃ σ' τ', (∀ (L : Lay) (ow : Nat → Prop), YI D cI cZ cO t0 mi l yX8_prove cX8_prove 3 (some FieldType.int) 14 480 3 22 [.ref (L 899 0), .int (nI p), .int (nI pr)] L σ ow 0 (if (h_run 2 0 0 pr 0 0 (cpj p 2 48 ρ)).1 = 0 then (-1) else nI 10000 * (h_run 2 0 0 pr 0 0 (cpj p 2 48 ρ)).1 + (h_run 2 0 0 pr 0 0 (cpj p 2 48 ρ)).2.2.2.2 904 0 6) σ') ∧ Rl wr0 σ' τ' ∧ JJ K ρ τ' := by
  have g : (ix (nI p) (τ.1 924 0) ∧ ix (nI pr) (τ.1 904 0)) ∧ True ∧ True := ⟨⟨by rw [hJ.2.2.1.1]; exact ixz hp (by decide), by rw [hJ.2.1.2.2]; exact ixz hpr (by decide)⟩, trivial, trivial⟩
  have q := cp_sim (fr := 0) (hJ.tau (w944 (x := nI 0))) hp hpr
  have f := TS.fr0 (FR_runs0 p pr 0 (wI τ 944 0 (nI 0)))
  have f9 := (FR_runs0 p pr 0 (wI τ 944 0 (nI 0))).2.1 944 (by decide)
  have e : (m_prove (nI p) (nI pr) τ).1 = (if (h_run 2 0 0 pr 0 0 (cpj p 2 48 ρ)).1 = 0 then (-1) else nI 10000 * (h_run 2 0 0 pr 0 0 (cpj p 2 48 ρ)).1 + (h_run 2 0 0 pr 0 0 (cpj p 2 48 ρ)).2.2.2.2 904 0 6) ∧ (m_prove (nI p) (nI pr) τ).2 = (m_runs0 p pr 0 (wI τ 944 0 (nI 0))).2 := by
    unfold m_prove
    rw [mg_0 g, if_pos g, tz (by omega : p < 1000), tz (by omega : pr < 1000)]
    generalize h_run 2 0 0 pr 0 0 (cpj p 2 48 ρ) = X at q ⊢
    generalize m_runs0 p pr 0 (wI τ 944 0 (nI 0)) = Y at q ⊢
    obtain ⟨-, q1, q2, -, q4⟩ := q
    rw [q1]
    by_cases c : Y.1 = 0
    · rw [if_neg (not_not_intro9 c), if_pos c]
      exact ⟨rfl, rfl⟩
    · rw [if_pos c, if_neg c, q2.2.2.2.2.1, ← ix_eq q4]
      exact ⟨rfl, rfl⟩
  generalize m_runs0 p pr 0 (wI τ 944 0 (nI 0)) = Y at e f f9
  obtain ⟨σ', h1, h2⟩ := oq_prove (D := D) (cI := cI) (cZ := cZ) (cO := cO) (t0 := t0) (mi := mi) hl9 hR (nI p) (nI pr) (by rw [e.2, f9]; exact t944)
  rw [e.1] at h1
  rw [e.2] at h2
  exact ⟨σ', _, h1, h2, hJ.tau ((w944 (x := nI 0)).tr f)⟩
set_option maxHeartbeats 1000000 in
theorem Q_takes (hl9 : l.stackTraces = false) (hR : Rl wr0 σ τ) (hJ : JJ K ρ τ) {p pr : Nat} (hp : p < 2) (hpr : pr < 3) : ∃ σ' τ', (∀ (L : Lay) (ow : Nat → Prop), YI D cI cZ cO t0 mi l yX8_takes cX8_takes 3 (some FieldType.int) 14 480 3 22 [.ref (L 899 0), .int (nI p), .int (nI pr)] L σ ow 0 (if (h_run 2 0 0 pr 0 0 (cpj p 2 48 ρ)).1 = 0 then ((h_run 2 0 0 pr 0 0 (cpj p 2 48 ρ)).2.2.2.2 904 0 8 + (h_run 2 0 0 pr 0 0 (cpj p 2 48 ρ)).2.2.2.2 904 0 9 + (h_run 2 0 0 pr 0 0 (cpj p 2 48 ρ)).2.2.2.2 904 0 10) + (h_run 2 0 0 pr 0 0 (cpj p 2 48 ρ)).2.2.2.2 904 0 11 else (-1)) σ') ∧ Rl wr0 σ' τ' ∧ JJ K ρ τ' := by
  have g : (ix (nI p) (τ.1 924 0) ∧ ix (nI pr) (τ.1 904 0)) ∧ True ∧ True := ⟨⟨by rw [hJ.2.2.1.1]; exact ixz hp (by decide), by rw [hJ.2.1.2.2]; exact ixz hpr (by decide)⟩, trivial, trivial⟩
  have q := cp_sim (fr := 0) (hJ.tau (w944 (x := nI 0))) hp hpr
  have f := TS.fr0 (FR_runs0 p pr 0 (wI τ 944 0 (nI 0)))
  have f9 := (FR_runs0 p pr 0 (wI τ 944 0 (nI 0))).2.1 944 (by decide)
  have e : (m_takes (nI p) (nI pr) τ).1 = (if (h_run 2 0 0 pr 0 0 (cpj p 2 48 ρ)).1 = 0 then ((h_run 2 0 0 pr 0 0 (cpj p 2 48 ρ)).2.2.2.2 904 0 8 + (h_run 2 0 0 pr 0 0 (cpj p 2 48 ρ)).2.2.2.2 904 0 9 + (h_run 2 0 0 pr 0 0 (cpj p 2 48 ρ)).2.2.2.2 904 0 10) + (h_run 2 0 0 pr 0 0 (cpj p 2 48 ρ)).2.2.2.2 904 0 11 else (-1)) ∧ (m_takes (nI p) (nI pr) τ).2 = (m_runs0 p pr 0 (wI τ 944 0 (nI 0))).2 := by
    unfold m_takes
    rw [mg_0 g, if_pos g, tz (by omega : p < 1000), tz (by omega : pr < 1000)]
    generalize h_run 2 0 0 pr 0 0 (cpj p 2 48 ρ) = X at q ⊢
    generalize m_runs0 p pr 0 (wI τ 944 0 (nI 0)) = Y at q ⊢
    obtain ⟨-, q1, q2, -, q4⟩ := q
    have u := q2.2.2.2.2.2.1
    rw [q1, u 0 (by decide), u 1 (by decide), u 2 (by decide), u 3 (by decide)]
    by_cases c : Y.1 = 0
    · rw [if_neg (not_not_intro9 c), if_pos c, nI_add, nI_add, nI_add]
      exact ⟨rfl, rfl⟩
    · rw [if_pos c, if_neg c]
      exact ⟨rfl, rfl⟩
  generalize m_runs0 p pr 0 (wI τ 944 0 (nI 0)) = Y at e f f9
  obtain ⟨σ', h1, h2⟩ := oq_takes (D := D) (cI := cI) (cZ := cZ) (cO := cO) (t0 := t0) (mi := mi) hl9 hR (nI p) (nI pr) (by rw [e.2, f9]; exact t944)
  rw [e.1] at h1
  rw [e.2] at h2
  exact ⟨σ', _, h1, h2, hJ.tau ((w944 (x := nI 0)).tr f)⟩
set_option maxHeartbeats 1000000 in
theorem Q_foresees (hR : Rl wr0 σ τ) (hJ : JJ K ρ τ) : ∃ σ' τ', (∀ (L : Lay) (ow : Nat → Prop), XI D cI cZ cO t0 mi l yX8_foresees cX8_foresees 2 (some FieldType.int) 14 490 1 10 [.ref (L 899 0)] L σ ow (nI (h_night 2 3 1 1 1 (fcp ρ)).1) σ') ∧ Rl wr0 σ' τ' ∧ JJ K ρ τ' := by
  have q := fore_sim hJ
  obtain ⟨σ', h1, h2⟩ := oq_foresees (D := D) (cI := cI) (cZ := cZ) (cO := cO) (t0 := t0) (mi := mi) (l := l) hR
  rw [← q.1] at h1
  exact ⟨σ', _, h1, h2, hJ.tau q.2.2⟩
set_option maxHeartbeats 1000000 in
theorem Q_lacks (hl9 : l.stackTraces = false) (hR : Rl wr0 σ τ) (hJ : JJ K ρ τ) {kd : Nat} (hk : kd < 4) : ∃ σ' τ', (∀ (L : Lay) (ow : Nat → Prop), YI D cI cZ cO t0 mi l yX8_lacks cX8_lacks 5 (some FieldType.int) 14 480 2 20 [.ref (L 899 0), .int (nI kd)] L σ ow 0 (h_lacks kd ρ).1 σ') ∧ Rl wr0 σ' τ' ∧ JJ K ρ τ' := by
  have q := lacks_sim hk hJ hR.2.2.2.2.2.2.2.2.2.2.2.2.2.2.2.2
  obtain ⟨σ', h1, h2⟩ := oq_lacks (D := D) (cI := cI) (cZ := cZ) (cO := cO) (t0 := t0) (mi := mi) hl9 hR (nI kd) q.2.2.2
  rw [← q.1] at h1
  exact ⟨σ', _, h1, h2, hJ.tau q.2.2.1⟩
set_option maxHeartbeats 1000000 in
theorem Q_night (hR : Rl wr0 σ τ) (hJ : JJ K ρ τ) : ∃ σ' τ', (∀ (L : Lay) (ow : Nat → Prop), XI D cI cZ cO t0 mi l yX8_night cX8_night 4 (some FieldType.int) 14 480 1 10 [.ref (L 899 0)] L σ ow (nI (h_night 0 1 0 0 0 ρ).1) σ') ∧ Rl wr0 σ' τ' ∧ JJ K (h_night 0 1 0 0 0 ρ).2 τ' := by
  have q := night_sim hJ
  obtain ⟨σ', h1, h2⟩ := oq_night (D := D) (cI := cI) (cZ := cZ) (cO := cO) (t0 := t0) (mi := mi) (l := l) hR
  rw [← q.1] at h1
  exact ⟨σ', _, h1, h2, q.2⟩
end QR2
