/-! THE TWO STATES: what ties the class's state σ to the reference's state τ -/
/-- a paper's verdict, by its rows -/
def vdp (f g : Nat → Int32) (d : Int32) : Nat → Nat → Int32 → Int32
  | 0, _, w => w
  | n + 1, i, w => if ¬ (if 0 ≤ f i then f i else 0 - f i) ≤ g i + d then nI 2 else vdp f g d n (i + 1) (if (if 0 ≤ f i then f i else 0 - f i) ≤ g i - d then w else nI 1)
theorem vdp_eq {q : Nat} {σ : St} : ∀ (n i : Nat) (w : Int32), k_vd q σ n i w = vdp (σ.2.2.2 304 q) (σ.2.2.2 305 q) (σ.2.1 303 q) n i w
  | 0, _, _ => rfl
  | n + 1, i, w => by
    unfold k_vd vdp
    rw [vdp_eq n]
def RI (σ : St) : Prop := ∀ j, j < 8 → j ≠ 2 → j ≠ 7 → ∀ i, i < σ.1 1002 j → σ.2.2.1 1001 j i = i
def RC (σ : St) : Prop := σ.1 1002 0 ≤ 16 ∧ σ.1 1002 1 ≤ 6 ∧ σ.1 1002 2 ≤ 6 ∧ σ.1 1002 3 = 4 ∧ σ.1 1002 4 ≤ 4 ∧ σ.1 1002 5 ≤ 30 ∧ σ.1 1002 6 ≤ 6
def RB (σ : St) : Prop := (∀ k, σ.1 5 k ≤ 6) ∧ (∀ k, σ.1 205 k ≤ 3) ∧ (∀ k, σ.1 306 k ≤ 6) ∧ (∀ k, σ.1 506 k ≤ 6 * σ.1 1002 5) ∧ (∀ k i, σ.2.2.1 0 k i < 144) ∧ ∀ k i, σ.2.2.1 4 k i ≤ 9
/-- the reference's own bounds -/
def SB (τ : St) : Prop := SI τ ∧ (∀ k, τ.2.2.1 903 0 k ≤ 30) ∧ (∀ k, τ.2.2.1 919 0 k ≤ 3) ∧ (∀ k, τ.2.2.1 931 0 k ≤ 6) ∧ (∀ k, τ.2.2.1 913 0 k ≤ 6 * τ.1 934 0) ∧ (∀ k, τ.2.2.1 925 0 k < 100) ∧ (∀ k, τ.2.2.1 927 0 k ≤ τ.1 900 0) ∧ (∀ i, τ.2.2.1 930 0 i ≤ 99) ∧ (∀ i, i < 24 → τ.2.2.1 930 0 (6 * i) < 12 ∧ τ.2.2.1 930 0 (6 * i + 1) < 12) ∧ (∀ i, i < 864 → τ.2.2.2 917 0 i = (-1) ∨ ix (τ.2.2.2 917 0 i) (τ.1 914 0) ∨ (144 * τ.1 924 0 ≤ i ∧ τ.2.2.2 917 0 i = 0)) ∧ ∀ k, τ.2.2.2 920 0 k = 0 → τ.2.2.1 922 0 k = 0
/-- counts -/
def GN (σ τ : St) : Prop := σ.1 1002 0 = τ.1 914 0 ∧ σ.1 1002 1 = τ.1 924 0 ∧ σ.1 1002 2 = τ.1 926 0 ∧ σ.1 1002 4 = τ.1 932 0 ∧ σ.1 1002 5 = τ.1 934 0 ∧ σ.1 1002 6 = τ.1 904 0
/-- the clock -/
def GT (σ τ : St) : Prop := σ.1 811 0 = τ.1 900 0 ∧ σ.1 812 0 = τ.1 901 0 ∧ τ.1 900 0 ≤ 1000000 + sumL (fun k => σ.1 504 k) 16 ∧ τ.1 901 0 ≤ 99
/-- programs -/
def GP (σ τ : St) : Prop := (∀ i, i < σ.1 1002 6 → σ.1 402 i = τ.2.2.1 903 0 i ∧ ∀ j, j < σ.1 402 i → σ.2.2.2 400 i j = τ.2.2.2 902 0 (60 * i + 2 * j) ∧ σ.2.2.2 401 i j = τ.2.2.2 902 0 (60 * i + 2 * j + 1) ∧ isB (nI i) (σ.2.2.2 400 i j) (σ.2.2.2 401 i j)) ∧ ∀ i, σ.1 1002 6 ≤ i → τ.2.2.1 903 0 i = 0
/-- tools -/
def GO (σ τ : St) : Prop := (∀ k, k < σ.1 1002 0 → σ.2.1 500 k = nI k ∧ σ.2.1 501 k = τ.2.2.2 906 0 k ∧ ix (σ.2.1 501 k) 4 ∧ σ.1 502 k = τ.2.2.1 907 0 k ∧ σ.1 504 k = τ.2.2.1 908 0 k ∧ σ.2.1 505 k = τ.2.2.2 910 0 k ∧ σ.1 506 k = τ.2.2.1 913 0 k ∧ σ.2.1 507 k = τ.2.2.2 911 0 k ∧ (σ.2.1 507 k = 0 ∨ σ.2.1 507 k = 1) ∧ ∀ j, j < 3 → j < σ.1 506 k → σ.2.2.2 503 k ((σ.1 506 k - 1 - j) % 3) = τ.2.2.2 912 0 (3 * k + j)) ∧ (∀ k, σ.1 1002 0 ≤ k → τ.2.2.1 908 0 k = 0 ∧ τ.2.2.2 910 0 k = 0 ∧ τ.2.2.2 911 0 k = 0 ∧ τ.2.2.1 913 0 k = 0 ∧ σ.1 504 k = 0)
/-- the map -/
def GM (σ τ : St) : Prop := ∀ x, x < 12 → σ.2.2.2 806 0 x = τ.2.2.2 905 0 x
/-- pallets -/
def GA (σ τ : St) : Prop := (∀ k, k < σ.1 1002 1 → σ.1 205 k = τ.2.2.1 919 0 k ∧ σ.2.1 206 k = τ.2.2.2 920 0 k ∧ σ.2.1 209 k = τ.2.2.2 923 0 k ∧ σ.1 208 k = τ.2.2.1 922 0 k ∧ ∀ c, c < 144 → σ.2.2.2 200 k c = τ.2.2.2 915 0 (144 * k + c) ∧ σ.2.2.2 204 k c = τ.2.2.2 916 0 (144 * k + c) ∧ σ.2.2.2 202 k c = τ.2.2.2 917 0 (144 * k + c) ∧ σ.2.2.2 201 k c = msz (144 * k + c) τ ∧ σ.2.2.2 203 k c = mcau (144 * k + c) τ) ∧ ∀ k, σ.1 1002 1 ≤ k → τ.2.2.1 919 0 k = 0 ∧ τ.2.2.2 920 0 k = 0 ∧ τ.2.2.1 922 0 k = 0 ∧ ∀ c, c < 144 → τ.2.2.2 916 0 (144 * k + c) = 0
/-- the queue: its pallets, apart, planned, with their programs -/
def GQ (σ τ : St) : Prop := (∀ i, i < σ.1 1002 2 → σ.2.2.1 1001 2 i = τ.2.2.1 925 0 i ∧ τ.2.2.1 925 0 i < σ.1 1002 1 ∧ τ.2.2.2 920 0 (τ.2.2.1 925 0 i) = nI 1 ∧ σ.2.1 207 (τ.2.2.1 925 0 i) = nI (τ.2.2.1 921 0 (τ.2.2.1 925 0 i)) ∧ τ.2.2.1 921 0 (τ.2.2.1 925 0 i) < σ.1 1002 6 ∧ σ.1 208 (τ.2.2.1 925 0 i) ≤ 6600) ∧ ∀ i j, i < σ.1 1002 2 → j < i → τ.2.2.1 925 0 i ≠ τ.2.2.1 925 0 j
/-- gauges -/
def GG (σ τ : St) : Prop := ∀ g, g < 4 → σ.2.1 100 g = (if τ.2.2.2 928 0 g = 0 then (-1) else nI (τ.2.2.1 927 0 g)) ∧ σ.2.1 101 g = τ.2.2.2 929 0 g
/-- drawings -/
def GD (σ τ : St) : Prop := (∀ d, d < σ.1 1002 4 → σ.1 5 d = τ.2.2.1 931 0 d ∧ ∀ i, i < 6 → (i < σ.1 5 d → σ.2.2.1 0 d i = 12 * τ.2.2.1 930 0 (6 * (6 * d + i) + 1) + τ.2.2.1 930 0 (6 * (6 * d + i)) ∧ σ.2.2.1 1 d i = τ.2.2.1 930 0 (6 * (6 * d + i) + 2) ∧ σ.2.2.1 2 d i = τ.2.2.1 930 0 (6 * (6 * d + i) + 3)) ∧ σ.2.2.1 3 d i = τ.2.2.1 930 0 (6 * (6 * d + i) + 4) ∧ σ.2.2.1 4 d i = τ.2.2.1 930 0 (6 * (6 * d + i) + 5)) ∧ ∀ d, σ.1 1002 4 ≤ d → τ.2.2.1 931 0 d = 0 ∧ ∀ i, i < 6 → τ.2.2.1 930 0 (6 * (6 * d + i) + 4) = 0 ∧ τ.2.2.1 930 0 (6 * (6 * d + i) + 5) = 0
/-- papers -/
def GR (σ τ : St) : Prop := (∀ q, q < σ.1 1002 5 → σ.2.1 300 q = τ.2.2.2 933 0 (18 * q) ∧ σ.2.1 301 q = τ.2.2.2 933 0 (18 * q + 1) ∧ vdp (σ.2.2.2 304 q) (σ.2.2.2 305 q) (σ.2.1 303 q) (σ.1 306 q) 0 (nI 0) = τ.2.2.2 933 0 (18 * q + 2) ∧ σ.2.1 302 q = τ.2.2.2 933 0 (18 * q + 3) ∧ σ.2.1 303 q = τ.2.2.2 933 0 (18 * q + 4) ∧ τ.2.2.2 933 0 (18 * q + 17) = nI (σ.1 306 q) ∧ ∀ i, i < 6 → σ.2.2.2 304 q i = τ.2.2.2 933 0 (18 * q + 5 + i) ∧ (i < σ.1 306 q → σ.2.2.2 305 q i = τ.2.2.2 933 0 (18 * q + 11 + i))) ∧ ∀ q, σ.1 1002 5 ≤ q → ∀ i, i < 18 → τ.2.2.2 933 0 (18 * q + i) = 0
abbrev WrT : Type := (Nat → Int32) → (Nat → Nat) → (Nat → Int32) → (Nat → Int32) → Nat → Nat → Prop
def slc (f : Nat → Int32) (p : Nat) : Nat → Int32 := fun c => f (144 * p + c % 144)
/-- what was planned is never wrong: 'wr blocks sizes stock clamps program gone', stock and clamps of the pallet -/
def GW (wr : WrT) (τ : St) : Prop := ∀ i, i < τ.1 926 0 → wr (τ.2.2.2 902 0) (τ.2.2.1 903 0) (slc (τ.2.2.2 915 0) (τ.2.2.1 925 0 i)) (slc (τ.2.2.2 916 0) (τ.2.2.1 925 0 i)) (τ.2.2.1 921 0 (τ.2.2.1 925 0 i)) (τ.2.2.1 922 0 (τ.2.2.1 925 0 i))
def Rl (wr : WrT) (σ τ : St) : Prop := KR σ ∧ TI σ ∧ RI σ ∧ RC σ ∧ RB σ ∧ SB τ ∧ GN σ τ ∧ GT σ τ ∧ GP σ τ ∧ GO σ τ ∧ GM σ τ ∧ GA σ τ ∧ GQ σ τ ∧ GG σ τ ∧ GD σ τ ∧ GR σ τ ∧ GW wr τ
theorem rl_944 {wr : WrT} {σ τ : St} {x : Int32} (h : Rl wr σ τ) : Rl wr σ (wI τ 944 0 x) := h
theorem t944 {τ : St} {x : Int32} : (wI τ 944 0 x).2.1 944 0 = x := by
  show up2 τ.2.1 944 0 x 944 0 = x
  exact up2_s
theorem ix_tn {x : Int32} {n : Nat} (h : ix x n) : tn x < n := by
  obtain ⟨h1, h2⟩ := h
  show x.toInt.toNat < n
  omega
theorem gc_1 {P1 P2 P3 : Prop} [Decidable P1] [Decidable P2] [Decidable P3] (h : ¬ P1) : gcode P1 P2 P3 = nI 1 := if_neg h
theorem gc_2 {P1 P2 P3 : Prop} [Decidable P1] [Decidable P2] [Decidable P3] (h1 : P1) (h2 : ¬ P2) : gcode P1 P2 P3 = nI 2 := (if_pos h1).trans (if_neg h2)
theorem gc_3 {P1 P2 P3 : Prop} [Decidable P1] [Decidable P2] [Decidable P3] (h1 : P1) (h2 : P2) (h3 : ¬ P3) : gcode P1 P2 P3 = nI 3 := (if_pos h1).trans ((if_pos h2).trans (if_neg h3))
theorem gc_0 {P1 P2 P3 : Prop} [Decidable P1] [Decidable P2] [Decidable P3] (h1 : P1) (h2 : P2) (h3 : P3) : gcode P1 P2 P3 = nI 0 := (if_pos h1).trans ((if_pos h2).trans (if_pos h3))
/-- both refuse -/
theorem ag_n {wr : WrT} {σ τ : St} {T : List Nat} {e : Nat} {x r r' : Int32} (h : Rl wr σ τ) (he : ¬ e = 0) (hx : x = nI (wk T e)) : (wI τ 944 0 x).2.1 944 0 = nI (wk T e) ∧ (e = 0 → r' = r) ∧ Rl wr σ (wI τ 944 0 x) := ⟨t944.trans hx, fun z => absurd z he, rl_944 h⟩
theorem p_map {wr : WrT} {σ τ : St} (h : Rl wr σ τ) (v1 v2 : Int32) : ((k_map v1 v2 σ).1 = 0 ∨ (k_map v1 v2 σ).1 = 2) ∧ (m_map v1 v2 τ).2.2.1 944 0 = nI (wk [2] (k_map v1 v2 σ).1) ∧ ((k_map v1 v2 σ).1 = 0 → (m_map v1 v2 τ).1 = (k_map v1 v2 σ).2.1) ∧ Rl wr (k_map v1 v2 σ).2.2 (m_map v1 v2 τ).2 := by
  unfold k_map m_map m_g
  by_cases c1 : ix v1 12
  · by_cases c2 : -50 ≤ v2.toInt ∧ v2.toInt ≤ 50
    · rw [if_neg (fun z => z c1), if_pos c2, if_pos ⟨⟨c1, c2⟩, trivial, trivial⟩, gc_0 ⟨c1, c2⟩ trivial trivial]
      obtain ⟨a1, a2, a3, a4, a5, a6, a7, a8, a9, a10, a11, a12, a13, a14, a15, a16, a17⟩ := h
      refine ⟨Or.inl rfl, t944 (τ := τ), fun _ => (a11 (tn v1) (ix_tn c1)).symm, a1, a2, a3, a4, a5, a6, a7, a8, a9, a10, fun x hx => ?_, a12, a13, a14, a15, a16, a17⟩
      show up3 σ.2.2.2 806 0 (tn v1) v2 806 0 x = up3 τ.2.2.2 905 0 (tn v1) v2 905 0 x
      rw [up3_s, up3_s]
      by_cases e : x = tn v1
      · subst e; rw [up1_s, up1_s]
      · rw [up1_n e, up1_n e]; exact a11 x hx
    · rw [if_neg (fun z => z c1), if_neg c2, if_neg (fun z => c2 z.1.2), gc_1 (fun z => c2 z.2)]
      exact ⟨Or.inr rfl, ag_n h (show ¬ (2 : Nat) = 0 by decide) rfl⟩
  · rw [if_pos c1, if_neg (fun z => c1 z.1.1), gc_1 (fun z => c1 z.1)]
    exact ⟨Or.inr rfl, ag_n h (show ¬ (2 : Nat) = 0 by decide) rfl⟩
