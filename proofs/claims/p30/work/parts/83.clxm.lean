/-! rows filled -/
theorem fill_r {F k : Nat} {v : Int32} {σ : St} : ∀ n, (m_fill F k v n σ).1 = σ.1 ∧ (m_fill F k v n σ).2.1 = σ.2.1 ∧ (m_fill F k v n σ).2.2.1 = σ.2.2.1
  | 0 => ⟨rfl, rfl, rfl⟩
  | n + 1 => fill_r (F := F) (k := k) (v := v) (σ := σ) n
theorem fill_o {F k : Nat} {v : Int32} {σ : St} {F' q : Nat} (h : ¬ (F' = F ∧ q = k)) : ∀ n, (m_fill F k v n σ).2.2.2 F' q = σ.2.2.2 F' q
  | 0 => rfl
  | n + 1 => by
    show up3 (m_fill F k v n σ).2.2.2 F k n v F' q = _
    rw [up3_n h, fill_o h n]
theorem fill_v {F k : Nat} {v : Int32} {σ : St} {i : Nat} : ∀ n, i < n → (m_fill F k v n σ).2.2.2 F k i = v
  | 0, h => absurd h (Nat.not_lt_zero _)
  | n + 1, h => by
    show up3 (m_fill F k v n σ).2.2.2 F k n v F k i = _
    rw [up3_s]
    by_cases e : i = n
    · subst e; rw [up1_s]
    · rw [up1_n e, fill_v n (by omega)]
theorem fil_r {v : Int32} {P : Nat} {σ : St} : ∀ n, (m_fil v P n σ).1 = σ.1 ∧ (m_fil v P n σ).2.1 = σ.2.1 ∧ (m_fil v P n σ).2.2.1 = σ.2.2.1
  | 0 => ⟨rfl, rfl, rfl⟩
  | n + 1 => fil_r (v := v) (P := P) (σ := σ) n
theorem fil_o {v : Int32} {P : Nat} {σ : St} {F q : Nat} (h5 : F ≠ 915) (h7 : F ≠ 917) : ∀ n, (m_fil v P n σ).2.2.2 F q = σ.2.2.2 F q
  | 0 => rfl
  | n + 1 => by
    show up3 (up3 (m_fil v P n σ).2.2.2 915 0 (144 * P + n) v) 917 0 (144 * P + n) (-1) F q = _
    rw [up3_n (fun z => h7 z.1), up3_n (fun z => h5 z.1), fil_o h5 h7 n]
theorem fil_5 {v : Int32} {P : Nat} {σ : St} {i : Nat} : ∀ n, (m_fil v P n σ).2.2.2 915 0 i = if 144 * P ≤ i ∧ i < 144 * P + n then v else σ.2.2.2 915 0 i
  | 0 => by rw [if_neg (by omega)]; rfl
  | n + 1 => by
    show up3 (up3 (m_fil v P n σ).2.2.2 915 0 (144 * P + n) v) 917 0 (144 * P + n) (-1) 915 0 i = _
    rw [up3_n (fun z => absurd z.1 (by decide)), up3_s]
    by_cases e : i = 144 * P + n
    · subst e; rw [up1_s, if_pos (by omega)]
    · rw [up1_n e, fil_5 n]
      by_cases c : 144 * P ≤ i ∧ i < 144 * P + n
      · rw [if_pos c, if_pos (by omega)]
      · rw [if_neg c, if_neg (by omega)]
theorem fil_7 {v : Int32} {P : Nat} {σ : St} {i : Nat} : ∀ n, (m_fil v P n σ).2.2.2 917 0 i = if 144 * P ≤ i ∧ i < 144 * P + n then (-1) else σ.2.2.2 917 0 i
  | 0 => by rw [if_neg (by omega)]; rfl
  | n + 1 => by
    show up3 (up3 (m_fil v P n σ).2.2.2 915 0 (144 * P + n) v) 917 0 (144 * P + n) (-1) 917 0 i = _
    rw [up3_s, up3_n (fun z => absurd z.1 (by decide))]
    by_cases e : i = 144 * P + n
    · subst e; rw [up1_s, if_pos (by omega)]
    · rw [up1_n e, fil_7 n]
      by_cases c : 144 * P ≤ i ∧ i < 144 * P + n
      · rw [if_pos c, if_pos (by omega)]
      · rw [if_neg c, if_neg (by omega)]
