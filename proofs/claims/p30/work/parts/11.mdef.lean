section P11
/-! plain facts on ints (fa_, fb_: begun from the pasted families NUMBERS, COUNTS) -/
theorem fa_lt (a b : Int32) : a < b ↔ a.toInt < b.toInt := Int32.lt_iff_toInt_lt
theorem fa_le (a b : Int32) : a ≤ b ↔ a.toInt ≤ b.toInt := Int32.le_iff_toInt_le
theorem fa_eq (a b : Int32) : a = b ↔ a.toInt = b.toInt := Int32.toInt_inj.symm
theorem fa_of_nlt {a b : Int32} (h : ¬ a < b) : b ≤ a := by
  rw [fa_lt] at h
  rw [fa_le]
  omega
theorem fa_of_nle {a b : Int32} (h : ¬ a ≤ b) : b < a := by
  rw [fa_le] at h
  rw [fa_lt]
  omega
theorem fa_lt_le {a b : Int32} (h : a < b) (h2 : b ≤ a) : False := by
  rw [fa_lt] at h
  rw [fa_le] at h2
  omega
theorem fb_rng (x : Int32) : -2147483648 ≤ x.toInt ∧ x.toInt < 2147483648 := by
  have h1 := Int32.le_toInt x
  have h2 := Int32.toInt_lt x
  omega
theorem fb_bmod {z : Int} (h1 : -2147483648 ≤ z) (h2 : z < 2147483648) : z.bmod (2 ^ 32) = z := by
  rw [Int.bmod_def]
  omega
theorem fb_addI {x y : Int32} (h1 : -2147483648 ≤ x.toInt + y.toInt) (h2 : x.toInt + y.toInt < 2147483648) : (x + y).toInt = x.toInt + y.toInt := by
  rw [Int32.toInt_add, fb_bmod h1 h2]
theorem fb_subI {x y : Int32} (h1 : -2147483648 ≤ x.toInt - y.toInt) (h2 : x.toInt - y.toInt < 2147483648) : (x - y).toInt = x.toInt - y.toInt := by
  rw [Int32.toInt_sub, fb_bmod h1 h2]
theorem fb_mulI {x y : Int32} (h1 : -2147483648 ≤ x.toInt * y.toInt) (h2 : x.toInt * y.toInt < 2147483648) : (x * y).toInt = x.toInt * y.toInt := by
  rw [Int32.toInt_mul, fb_bmod h1 h2]
theorem fb_negI {x : Int32} (h : x.toInt ≠ -2147483648) : (-x).toInt = -x.toInt := by
  have := fb_rng x
  rw [Int32.toInt_neg, fb_bmod (by omega) (by omega)]
/-- an int that is one of 0 .. n - 1, and which -/
abbrev ix (x : Int32) (n : Nat) : Prop := 0 ≤ x.toInt ∧ x.toInt < (n : Int)
abbrev tn (x : Int32) : Nat := x.toInt.toNat
theorem ix_eq {x : Int32} {n : Nat} (h : ix x n) : x = nI (tn x) := by
  have hr := fb_rng x
  have h1 := h.1
  unfold tn
  rw [fa_eq, nI_toInt (by omega)]
  omega
theorem ix_lt {x : Int32} {n : Nat} (h : ix x n) : tn x < n := by
  have h1 := h.1
  have h2 := h.2
  unfold tn
  omega
theorem ix_nI {k n : Nat} (hk : k < 2147483648) : ix (nI k) n ↔ k < n := by
  unfold ix
  rw [nI_toInt hk]
  omega
theorem tn_nI {k : Nat} (hk : k < 2147483648) : tn (nI k) = k := by
  unfold tn
  rw [nI_toInt hk]
  omega
theorem nI_tz {k : Nat} (hk : k < 2147483648) : (nI k).toInt = (k : Int) := nI_toInt hk
/-- 'in' from 0 to n - 1 -/
theorem rg_z {v : Int32} (n : Nat) (hn : n < 2147483647) : (nI 0 ≤ v ∧ v ≤ nI n) ↔ ix v (n + 1) := by
  rw [fa_le, fa_le, nI_tz (by omega), nI_tz (by omega)]
  unfold ix
  omega
theorem rg_m {v : Int32} {n : Nat} (hn : n < 2147483648) : (nI 0 ≤ v ∧ v ≤ nI n - nI 1) ↔ ix v n := by
  have h1 : (nI n - nI 1).toInt = (n : Int) - 1 := by
    rw [fb_subI] <;> rw [nI_tz hn, nI_tz (by decide)] <;> omega
  rw [fa_le, fa_le, h1, nI_tz (by omega)]
  unfold ix
  omega
theorem rg_i {v : Int32} {a b : Int32} (A B : Int) (ha : a.toInt = A) (hb : b.toInt = B) : (a ≤ v ∧ v ≤ b) ↔ (A ≤ v.toInt ∧ v.toInt ≤ B) := by
  rw [fa_le, fa_le, ha, hb]
theorem not_not_intro9 {P : Prop} (h : P) : ¬ ¬ P := fun z => z h
/-- what 'goes' notes: 0, or which of three is wrong -/
def gcode (P1 P2 P3 : Prop) [Decidable P1] [Decidable P2] [Decidable P3] : Int32 := if P1 then (if P2 then (if P3 then nI 0 else nI 3) else nI 2) else nI 1
def m_g (P1 P2 P3 : Prop) [Decidable P1] [Decidable P2] [Decidable P3] (σ : St) : St := wI σ 944 0 (gcode P1 P2 P3)
section LOOP
variable {D : va_G} {cI cZ cO : ClassId} {dom : Nat → Nat → Prop} {L : Lay} {ow A : Nat → Prop}
variable {p : Program} {l : Launch} {e : Env} {R : Room} {s : State} {m : MethodId} {args : Array Value} {below : List Frame} {meth : Method} {c : Code} {H H0 : Heap} {locs : List Loc} {cells slots : Nat} {Q : State → Prop}
variable {nL pc : Nat} {ls : Array Slot} {st : List Value}
/-- a loop, by a measure: at its head (pc) the locals and the state are those of i -/
theorem r_loop {ι : Type} (lvf : ι → List (Nat × Value)) (sgf : ι → St) (μ : ι → Nat) (Inv : ι → Prop) (i0 : ι) (hI : Inv i0) (hG : PW D cI cZ cO dom L (sgf i0) ow H) (hS : va_S A H0 H locs) (hl : lv_has ls nL (lvf i0))
    (body : ∀ i : ι, Inv i → (∀ j : ι, μ j < μ i → Inv j → ∀ (H : Heap) (locs : List Loc) (ls : Array Slot), PW D cI cZ cO dom L (sgf j) ow H → va_S A H0 H locs → lv_has ls nL (lvf j) → W p l e R s m args below meth c H locs cells slots Q (F0 m pc ls st)) →
      ∀ (H : Heap) (locs : List Loc) (ls : Array Slot), PW D cI cZ cO dom L (sgf i) ow H → va_S A H0 H locs → lv_has ls nL (lvf i) → W p l e R s m args below meth c H locs cells slots Q (F0 m pc ls st)) : W p l e R s m args below meth c H locs cells slots Q (F0 m pc ls st) := by
  have key : ∀ (n : Nat) (i : ι), μ i < n → Inv i → ∀ (H : Heap) (locs : List Loc) (ls : Array Slot), PW D cI cZ cO dom L (sgf i) ow H → va_S A H0 H locs → lv_has ls nL (lvf i) → W p l e R s m args below meth c H locs cells slots Q (F0 m pc ls st) := by
    intro n
    induction n with
    | zero => intro i h; exact absurd h (Nat.not_lt_zero _)
    | succ n ih => intro i h hi; exact body i hi (fun j hj hij => ih j (by omega) hij)
  exact key (μ i0 + 1) i0 (Nat.lt_succ_self _) hI H locs ls hG hS hl
/-- a place where ways meet: proved once, with what stands on top there, whatever calls that change nothing came before -/
theorem r_cutH {σ : St} {st0 : List Value} {pc0 : Nat} (pc2 : Nat) (st2 : List Value) (hG : PW D cI cZ cO dom L σ ow H) (hS : va_S A H0 H locs)
    (h1 : ∀ (H : Heap) (locs : List Loc), PW D cI cZ cO dom L σ ow H → va_S A H0 H locs → W p l e R s m args below meth c H locs cells slots Q (F0 m pc2 ls st2))
    (h2 : (∀ (H : Heap) (locs : List Loc), PW D cI cZ cO dom L σ ow H → va_S A H0 H locs → W p l e R s m args below meth c H locs cells slots Q (F0 m pc2 ls st2)) → W p l e R s m args below meth c H locs cells slots Q (F0 m pc0 ls st0)) : W p l e R s m args below meth c H locs cells slots Q (F0 m pc0 ls st0) := h2 h1
end LOOP
theorem sw_ne {x : Int32} {n : Nat} (h : x.toInt < 0 ∨ (n : Int) < x.toInt) (j : Nat) (hj : j ≤ n ∧ n < 2147483647 := by decide) : ¬ x = nI j := by
  intro z
  rw [z, nI_tz (by omega)] at h
  omega
def isz (v : Int32) : Int32 := if v < 0 then -v else v
def m_program (σ : St) : Int32 × St := if (σ.1 904 0 < 6) ∧ (True) ∧ (True) then (nI (((σ.1 904 0) + 1) - 1), (wN (m_g (σ.1 904 0 < 6) (True) (True) σ) 904 0 ((σ.1 904 0) + 1))) else (nI 0, (m_g (σ.1 904 0 < 6) (True) (True) σ))
abbrev isB (p w v : Int32) : Prop := if w = nI 0 ∨ w = nI 1 then nI 0 ≤ v ∧ v ≤ nI 1 else if w = nI 2 ∨ w = nI 3 ∨ w = nI 4 then (-11) ≤ v ∧ v ≤ nI 11 else if w = nI 5 then nI 0 ≤ v ∧ v ≤ nI 3 else w = nI 6 ∧ nI 0 ≤ v ∧ v ≤ p - nI 1
theorem isB_d {p w v : Int32} (h : w.toInt < 0 ∨ 5 < w.toInt) : isB p w v ↔ (w = nI 6 ∧ nI 0 ≤ v ∧ v ≤ p - nI 1) := by
  have e : ∀ k, k < 6 → ¬ w = nI k := by
    intro k hk z
    rw [z, nI_tz (by omega)] at h
    omega
  unfold isB
  rw [if_neg (fun z => z.elim (e 0 (by omega)) (e 1 (by omega))), if_neg (fun z => z.elim (e 2 (by omega)) (fun z => z.elim (e 3 (by omega)) (e 4 (by omega)))), if_neg (e 5 (by omega))]
def m_block (p9 w v : Int32) (σ : St) : Int32 × St := if (ix p9 (σ.1 904 0)) ∧ (isB p9 w v) ∧ (ix p9 (σ.1 904 0) ∧ σ.2.2.1 903 0 (tn p9) < 30 ∧ σ.1 926 0 = 0) then (nI ((σ.2.2.1 903 0 (tn p9)) + 1), (wA (wB (wB (m_g (ix p9 (σ.1 904 0)) (isB p9 w v) (ix p9 (σ.1 904 0) ∧ σ.2.2.1 903 0 (tn p9) < 30 ∧ σ.1 926 0 = 0) σ) 902 0 ((60 * (tn p9)) + (2 * (σ.2.2.1 903 0 (tn p9)))) w) 902 0 (((60 * (tn p9)) + (2 * (σ.2.2.1 903 0 (tn p9)))) + 1) v) 903 0 (tn p9) ((σ.2.2.1 903 0 (tn p9)) + 1))) else (nI 0, (m_g (ix p9 (σ.1 904 0)) (isB p9 w v) (ix p9 (σ.1 904 0) ∧ σ.2.2.1 903 0 (tn p9) < 30 ∧ σ.1 926 0 = 0) σ))
def m_map (x v : Int32) (σ : St) : Int32 × St := if (ix x 12 ∧ (-50 ≤ v.toInt ∧ v.toInt ≤ 50)) ∧ (True) ∧ (True) then (σ.2.2.2 905 0 (tn x), (wB (m_g (ix x 12 ∧ (-50 ≤ v.toInt ∧ v.toInt ≤ 50)) (True) (True) σ) 905 0 (tn x) v)) else (nI 0, (m_g (ix x 12 ∧ (-50 ≤ v.toInt ∧ v.toInt ≤ 50)) (True) (True) σ))
def m_tool (k9 v : Int32) (σ : St) : Int32 × St := if (ix k9 4 ∧ (1 ≤ v.toInt ∧ v.toInt ≤ 500)) ∧ (σ.1 914 0 < 16) ∧ (True) then (nI (((σ.1 914 0) + 1) - 1), (wN (wA (wB (m_g (ix k9 4 ∧ (1 ≤ v.toInt ∧ v.toInt ≤ 500)) (σ.1 914 0 < 16) (True) σ) 906 0 (σ.1 914 0) k9) 907 0 (σ.1 914 0) (tn v)) 914 0 ((σ.1 914 0) + 1))) else (nI 0, (m_g (ix k9 4 ∧ (1 ≤ v.toInt ∧ v.toInt ≤ 500)) (σ.1 914 0 < 16) (True) σ))
def cntZ (f : Nat → Int32) : Nat → Nat
  | 0 => 0
  | n + 1 => cntZ f n + (if f n = 0 then 0 else 1)
theorem cntZ_le (f : Nat → Int32) : ∀ n, cntZ f n ≤ n
  | 0 => Nat.le_refl _
  | n + 1 => by
    have h := cntZ_le f n
    unfold cntZ
    split <;> omega
end P11
section P12
def m_load (t9 : Int32) (P2 : Prop) [Decidable P2] (σ : St) : Int32 × St := if (ix t9 (σ.1 914 0)) ∧ (ix t9 (σ.1 914 0) ∧ (¬ P2 ∨ ¬ σ.2.2.2 911 0 (tn t9) = 0 ∨ cntZ (σ.2.2.2 911 0) (σ.1 914 0) < 6)) ∧ (True) then (nI (cntZ ((wB (m_g (ix t9 (σ.1 914 0)) (ix t9 (σ.1 914 0) ∧ (¬ P2 ∨ ¬ σ.2.2.2 911 0 (tn t9) = 0 ∨ cntZ (σ.2.2.2 911 0) (σ.1 914 0) < 6)) (True) σ) 911 0 (tn t9) (b2i (P2))).2.2.2 911 0) (σ.1 914 0)), (wB (m_g (ix t9 (σ.1 914 0)) (ix t9 (σ.1 914 0) ∧ (¬ P2 ∨ ¬ σ.2.2.2 911 0 (tn t9) = 0 ∨ cntZ (σ.2.2.2 911 0) (σ.1 914 0) < 6)) (True) σ) 911 0 (tn t9) (b2i (P2)))) else (nI 0, (m_g (ix t9 (σ.1 914 0)) (ix t9 (σ.1 914 0) ∧ (¬ P2 ∨ ¬ σ.2.2.2 911 0 (tn t9) = 0 ∨ cntZ (σ.2.2.2 911 0) (σ.1 914 0) < 6)) (True) σ))
def m_fil (v : Int32) (P : Nat) : Nat → St → St
  | 0, σ => σ
  | n + 1, σ => wB (wB (m_fil v P n σ) 915 0 (144 * P + n) v) 917 0 (144 * P + n) (-1)
theorem m_fil_1 (v : Int32) (P : Nat) (σ : St) : ∀ n, (m_fil v P n σ).1 = σ.1
  | 0 => rfl
  | n + 1 => m_fil_1 v P σ n
def m_pallet (v : Int32) (σ : St) : Int32 × St := if (1 ≤ v.toInt ∧ v.toInt ≤ 9) ∧ (σ.1 924 0 < 6) ∧ (True) then (nI (((σ.1 924 0) + 1) - 1), (wN (wB (m_fil v (σ.1 924 0) 144 (m_g (1 ≤ v.toInt ∧ v.toInt ≤ 9) (σ.1 924 0 < 6) True σ)) 923 0 (σ.1 924 0) (-1)) 924 0 ((σ.1 924 0) + 1))) else (nI 0, (m_g (1 ≤ v.toInt ∧ v.toInt ≤ 9) (σ.1 924 0 < 6) (True) σ))
def m_clamp (p9 x y v : Int32) (σ : St) : Int32 × St := if (ix p9 (σ.1 924 0) ∧ (ix x 12 ∧ ix y 12)) ∧ (1 ≤ v.toInt ∧ v.toInt ≤ 9) ∧ ((ix p9 (σ.1 924 0) ∧ (ix x 12 ∧ ix y 12)) ∧ σ.2.2.2 920 0 (tn p9) = 0 ∧ σ.2.2.2 916 0 (if ¬ (ix p9 (σ.1 924 0) ∧ (ix x 12 ∧ ix y 12)) then 0 else 144 * tn p9 + 12 * tn y + tn x) = 0 ∧ σ.2.2.1 919 0 (tn p9) < 3) then (nI ((σ.2.2.1 919 0 (tn p9)) + 1), (wA (wB (m_g (ix p9 (σ.1 924 0) ∧ (ix x 12 ∧ ix y 12)) (1 ≤ v.toInt ∧ v.toInt ≤ 9) ((ix p9 (σ.1 924 0) ∧ (ix x 12 ∧ ix y 12)) ∧ σ.2.2.2 920 0 (tn p9) = 0 ∧ σ.2.2.2 916 0 (if ¬ (ix p9 (σ.1 924 0) ∧ (ix x 12 ∧ ix y 12)) then 0 else 144 * tn p9 + 12 * tn y + tn x) = 0 ∧ σ.2.2.1 919 0 (tn p9) < 3) σ) 916 0 (if ¬ (ix p9 (σ.1 924 0) ∧ (ix x 12 ∧ ix y 12)) then 0 else 144 * tn p9 + 12 * tn y + tn x) v) 919 0 (tn p9) ((σ.2.2.1 919 0 (tn p9)) + 1))) else (nI 0, (m_g (ix p9 (σ.1 924 0) ∧ (ix x 12 ∧ ix y 12)) (1 ≤ v.toInt ∧ v.toInt ≤ 9) ((ix p9 (σ.1 924 0) ∧ (ix x 12 ∧ ix y 12)) ∧ σ.2.2.2 920 0 (tn p9) = 0 ∧ σ.2.2.2 916 0 (if ¬ (ix p9 (σ.1 924 0) ∧ (ix x 12 ∧ ix y 12)) then 0 else 144 * tn p9 + 12 * tn y + tn x) = 0 ∧ σ.2.2.1 919 0 (tn p9) < 3) σ))
def m_idle (v : Int32) (σ : St) : Int32 × St := if (1 ≤ v.toInt ∧ v.toInt ≤ 500) ∧ ((1 ≤ v.toInt ∧ v.toInt ≤ 500) ∧ σ.1 900 0 + tn v ≤ 1000000) ∧ (True) then (nI ((σ.1 900 0) + (tn v)), (wN (wN (m_g (1 ≤ v.toInt ∧ v.toInt ≤ 500) ((1 ≤ v.toInt ∧ v.toInt ≤ 500) ∧ σ.1 900 0 + tn v ≤ 1000000) (True) σ) 900 0 ((σ.1 900 0) + (tn v))) 901 0 (if σ.1 901 0 ≤ tn v then 0 else σ.1 901 0 - tn v))) else (nI 0, (m_g (1 ≤ v.toInt ∧ v.toInt ≤ 500) ((1 ≤ v.toInt ∧ v.toInt ≤ 500) ∧ σ.1 900 0 + tn v ≤ 1000000) (True) σ))
def m_calibrate (x v : Int32) (σ : St) : Int32 × St := if (ix x 4) ∧ (0 ≤ v.toInt ∧ v.toInt ≤ 30) ∧ (True) then (nI (((σ.1 900 0) + 1000) - 1), (wB (wA (wB (m_g (ix x 4) (0 ≤ v.toInt ∧ v.toInt ≤ 30) (True) σ) 928 0 (tn x) (nI 1)) 927 0 (tn x) (σ.1 900 0)) 929 0 (tn x) v)) else (nI 0, (m_g (ix x 4) (0 ≤ v.toInt ∧ v.toInt ≤ 30) (True) σ))
def m_drawing (σ : St) : Int32 × St := if (σ.1 932 0 < 4) ∧ (True) ∧ (True) then (nI (((σ.1 932 0) + 1) - 1), (wN (m_g (σ.1 932 0 < 4) (True) (True) σ) 932 0 ((σ.1 932 0) + 1))) else (nI 0, (m_g (σ.1 932 0 < 4) (True) (True) σ))
def m_feature (d9 x y h9 v : Int32) (σ : St) : Int32 × St := if (ix d9 (σ.1 932 0) ∧ (ix x 12 ∧ ix y 12)) ∧ ((0 ≤ h9.toInt ∧ h9.toInt ≤ 9) ∧ (1 ≤ v.toInt ∧ v.toInt ≤ 99)) ∧ ((ix d9 (σ.1 932 0) ∧ (ix x 12 ∧ ix y 12)) ∧ σ.2.2.1 931 0 (tn d9) < 6) then (nI ((σ.2.2.1 931 0 (tn d9)) + 1), (wA (wA (wA (wA (wA (m_g (ix d9 (σ.1 932 0) ∧ (ix x 12 ∧ ix y 12)) ((0 ≤ h9.toInt ∧ h9.toInt ≤ 9) ∧ (1 ≤ v.toInt ∧ v.toInt ≤ 99)) ((ix d9 (σ.1 932 0) ∧ (ix x 12 ∧ ix y 12)) ∧ σ.2.2.1 931 0 (tn d9) < 6) σ) 930 0 (6 * ((6 * (tn d9)) + (σ.2.2.1 931 0 (tn d9)))) (tn x)) 930 0 ((6 * ((6 * (tn d9)) + (σ.2.2.1 931 0 (tn d9)))) + 1) (tn y)) 930 0 ((6 * ((6 * (tn d9)) + (σ.2.2.1 931 0 (tn d9)))) + 2) (tn h9)) 930 0 ((6 * ((6 * (tn d9)) + (σ.2.2.1 931 0 (tn d9)))) + 3) (tn v)) 931 0 (tn d9) ((σ.2.2.1 931 0 (tn d9)) + 1))) else (nI 0, (m_g (ix d9 (σ.1 932 0) ∧ (ix x 12 ∧ ix y 12)) ((0 ≤ h9.toInt ∧ h9.toInt ≤ 9) ∧ (1 ≤ v.toInt ∧ v.toInt ≤ 99)) ((ix d9 (σ.1 932 0) ∧ (ix x 12 ∧ ix y 12)) ∧ σ.2.2.1 931 0 (tn d9) < 6) σ))
def m_allow (d9 f9 v w : Int32) (σ : St) : Int32 × St := if (ix d9 (σ.1 932 0) ∧ ix f9 (σ.2.2.1 931 0 (tn d9))) ∧ ((0 ≤ v.toInt ∧ v.toInt ≤ 99) ∧ (1 ≤ w.toInt ∧ w.toInt ≤ 9)) ∧ (True) then (nI (((wA (wA (m_g (ix d9 (σ.1 932 0) ∧ ix f9 (σ.2.2.1 931 0 (tn d9))) ((0 ≤ v.toInt ∧ v.toInt ≤ 99) ∧ (1 ≤ w.toInt ∧ w.toInt ≤ 9)) (True) σ) 930 0 ((6 * ((6 * (tn d9)) + (tn f9))) + 4) (tn v)) 930 0 ((6 * ((6 * (tn d9)) + (tn f9))) + 5) (tn w)).2.2.1 930 0 ((6 * ((6 * (tn d9)) + (tn f9))) + 3)) + (tn v)), (wA (wA (m_g (ix d9 (σ.1 932 0) ∧ ix f9 (σ.2.2.1 931 0 (tn d9))) ((0 ≤ v.toInt ∧ v.toInt ≤ 99) ∧ (1 ≤ w.toInt ∧ w.toInt ≤ 9)) (True) σ) 930 0 ((6 * ((6 * (tn d9)) + (tn f9))) + 4) (tn v)) 930 0 ((6 * ((6 * (tn d9)) + (tn f9))) + 5) (tn w))) else (nI 0, (m_g (ix d9 (σ.1 932 0) ∧ ix f9 (σ.2.2.1 931 0 (tn d9))) ((0 ≤ v.toInt ∧ v.toInt ≤ 99) ∧ (1 ≤ w.toInt ∧ w.toInt ≤ 9)) (True) σ))
end P12
section P13
def msz (i : Nat) (σ : St) : Int32 := if σ.2.2.2 917 0 i = (-1) then nI 1000 * σ.2.2.2 915 0 i else nI 1000 * σ.2.2.2 915 0 i + σ.2.2.2 918 0 (4 * i + 0) + σ.2.2.2 918 0 (4 * i + 1) + σ.2.2.2 918 0 (4 * i + 2) + σ.2.2.2 918 0 (4 * i + 3)
def cau (f : Nat → Int32) : Nat → Int32 × Int32
  | 0 => (-1, nI 0)
  | k + 1 => if isz (f k) ≤ (cau f k).2 then cau f k else (nI k, isz (f k))
def mcau (i : Nat) (σ : St) : Int32 := if σ.2.2.2 917 0 i = (-1) then (-1) else (cau (fun j => σ.2.2.2 918 0 (4 * i + j)) 4).1
def m_tells (t9 : Nat) (v : Int32) (σ : St) : St := (wA (wB (wB (wB σ 912 0 (3 * t9 + 2) (σ.2.2.2 912 0 (3 * t9 + 1))) 912 0 (3 * t9 + 1) ((wB σ 912 0 (3 * t9 + 2) (σ.2.2.2 912 0 (3 * t9 + 1))).2.2.2 912 0 (3 * t9))) 912 0 (3 * t9) v) 913 0 t9 ((σ.2.2.1 913 0 t9) + 1))
theorem m_tells_1 (t9 : Nat) (v : Int32) (σ : St) : (m_tells t9 v σ).1 = σ.1 := rfl
theorem m_tells_2 (t9 : Nat) (v : Int32) (σ : St) : (m_tells t9 v σ).2.1 = σ.2.1 := rfl
/-- how one feature is judged: its aways, its tolerance, the doubt -/
def vd1 (w t d : Int32) : Int32 := if isz w ≤ t + d then (if t - d < isz w then nI 1 else nI 0) else nI 2
def vdl (f : Nat → Int32) : Nat → Int32
  | 0 => nI 0
  | k + 1 => if f k ≤ vdl f k then vdl f k else f k
def vdf (p : Nat) (σ : St) : Nat → Int32 := fun k => vd1 (σ.2.2.2 933 0 (18 * p + 5 + k)) (σ.2.2.2 933 0 (18 * p + 11 + k)) (σ.2.2.2 933 0 (18 * p + 4))
def m_correct (t9 : Int32) (σ : St) : Int32 × St := if (ix t9 (σ.1 914 0)) ∧ (True) ∧ (True) then (if (σ.2.2.1 913 0 (tn t9)) < 3 then (nI 0, (m_g (ix t9 (σ.1 914 0)) (True) (True) σ)) else (if ¬ σ.2.2.2 912 0 (3 * tn t9) ≤ 0 ∧ ¬ σ.2.2.2 912 0 (3 * tn t9 + 1) ≤ 0 ∧ ¬ σ.2.2.2 912 0 (3 * tn t9 + 2) ≤ 0 then (((if ((σ.2.2.2 910 0 (tn t9)) + (((((σ.2.2.2 912 0 (3 * (tn t9))) + (σ.2.2.2 912 0 ((3 * (tn t9)) + 1))) + (σ.2.2.2 912 0 ((3 * (tn t9)) + 2))) / (nI 3)) / (nI 2))) ≤ nI 200 then (if (-200) ≤ ((σ.2.2.2 910 0 (tn t9)) + (((((σ.2.2.2 912 0 (3 * (tn t9))) + (σ.2.2.2 912 0 ((3 * (tn t9)) + 1))) + (σ.2.2.2 912 0 ((3 * (tn t9)) + 2))) / (nI 3)) / (nI 2))) then ((σ.2.2.2 910 0 (tn t9)) + (((((σ.2.2.2 912 0 (3 * (tn t9))) + (σ.2.2.2 912 0 ((3 * (tn t9)) + 1))) + (σ.2.2.2 912 0 ((3 * (tn t9)) + 2))) / (nI 3)) / (nI 2))) else (-200)) else nI 200) - (σ.2.2.2 910 0 (tn t9))), (wA (wB (m_g (ix t9 (σ.1 914 0)) (True) (True) σ) 910 0 (tn t9) (if ((σ.2.2.2 910 0 (tn t9)) + (((((σ.2.2.2 912 0 (3 * (tn t9))) + (σ.2.2.2 912 0 ((3 * (tn t9)) + 1))) + (σ.2.2.2 912 0 ((3 * (tn t9)) + 2))) / (nI 3)) / (nI 2))) ≤ nI 200 then (if (-200) ≤ ((σ.2.2.2 910 0 (tn t9)) + (((((σ.2.2.2 912 0 (3 * (tn t9))) + (σ.2.2.2 912 0 ((3 * (tn t9)) + 1))) + (σ.2.2.2 912 0 ((3 * (tn t9)) + 2))) / (nI 3)) / (nI 2))) then ((σ.2.2.2 910 0 (tn t9)) + (((((σ.2.2.2 912 0 (3 * (tn t9))) + (σ.2.2.2 912 0 ((3 * (tn t9)) + 1))) + (σ.2.2.2 912 0 ((3 * (tn t9)) + 2))) / (nI 3)) / (nI 2))) else (-200)) else nI 200)) 913 0 (tn t9) 0)) else (if ¬ 0 ≤ σ.2.2.2 912 0 (3 * tn t9) ∧ ¬ 0 ≤ σ.2.2.2 912 0 (3 * tn t9 + 1) ∧ ¬ 0 ≤ σ.2.2.2 912 0 (3 * tn t9 + 2) then (((if ((σ.2.2.2 910 0 (tn t9)) + (((((σ.2.2.2 912 0 (3 * (tn t9))) + (σ.2.2.2 912 0 ((3 * (tn t9)) + 1))) + (σ.2.2.2 912 0 ((3 * (tn t9)) + 2))) / (nI 3)) / (nI 2))) ≤ nI 200 then (if (-200) ≤ ((σ.2.2.2 910 0 (tn t9)) + (((((σ.2.2.2 912 0 (3 * (tn t9))) + (σ.2.2.2 912 0 ((3 * (tn t9)) + 1))) + (σ.2.2.2 912 0 ((3 * (tn t9)) + 2))) / (nI 3)) / (nI 2))) then ((σ.2.2.2 910 0 (tn t9)) + (((((σ.2.2.2 912 0 (3 * (tn t9))) + (σ.2.2.2 912 0 ((3 * (tn t9)) + 1))) + (σ.2.2.2 912 0 ((3 * (tn t9)) + 2))) / (nI 3)) / (nI 2))) else (-200)) else nI 200) - (σ.2.2.2 910 0 (tn t9))), (wA (wB (m_g (ix t9 (σ.1 914 0)) (True) (True) σ) 910 0 (tn t9) (if ((σ.2.2.2 910 0 (tn t9)) + (((((σ.2.2.2 912 0 (3 * (tn t9))) + (σ.2.2.2 912 0 ((3 * (tn t9)) + 1))) + (σ.2.2.2 912 0 ((3 * (tn t9)) + 2))) / (nI 3)) / (nI 2))) ≤ nI 200 then (if (-200) ≤ ((σ.2.2.2 910 0 (tn t9)) + (((((σ.2.2.2 912 0 (3 * (tn t9))) + (σ.2.2.2 912 0 ((3 * (tn t9)) + 1))) + (σ.2.2.2 912 0 ((3 * (tn t9)) + 2))) / (nI 3)) / (nI 2))) then ((σ.2.2.2 910 0 (tn t9)) + (((((σ.2.2.2 912 0 (3 * (tn t9))) + (σ.2.2.2 912 0 ((3 * (tn t9)) + 1))) + (σ.2.2.2 912 0 ((3 * (tn t9)) + 2))) / (nI 3)) / (nI 2))) else (-200)) else nI 200)) 913 0 (tn t9) 0)) else (nI 0, (m_g (ix t9 (σ.1 914 0)) (True) (True) σ))))) else (nI 0, (m_g (ix t9 (σ.1 914 0)) (True) (True) σ))
def m_ofTool (t9 w : Int32) (σ : St) : Int32 × St := if (ix t9 (σ.1 914 0)) ∧ (ix w 6) ∧ (True) then (if w = nI 0 then ((σ.2.2.2 906 0 (tn t9), (m_g (ix t9 (σ.1 914 0)) (ix w 6) (True) σ))) else (if w = nI 1 then ((nI (σ.2.2.1 907 0 (tn t9)), (m_g (ix t9 (σ.1 914 0)) (ix w 6) (True) σ))) else (if w = nI 2 then ((nI (σ.2.2.1 908 0 (tn t9)), (m_g (ix t9 (σ.1 914 0)) (ix w 6) (True) σ))) else (if w = nI 3 then ((σ.2.2.2 910 0 (tn t9), (m_g (ix t9 (σ.1 914 0)) (ix w 6) (True) σ))) else (if w = nI 4 then ((nI (if σ.2.2.2 911 0 (tn t9) = 0 then 0 else 1), (m_g (ix t9 (σ.1 914 0)) (ix w 6) (True) σ))) else ((nI (σ.2.2.1 913 0 (tn t9)), (m_g (ix t9 (σ.1 914 0)) (ix w 6) (True) σ)))))))) else (nI 0, (m_g (ix t9 (σ.1 914 0)) (ix w 6) (True) σ))
def m_ofCell (p9 x y w : Int32) (σ : St) : Int32 × St := if (ix p9 (σ.1 924 0) ∧ (ix x 12 ∧ ix y 12)) ∧ (ix w 5) ∧ (True) then (if w = nI 0 then ((σ.2.2.2 915 0 (((144 * (tn p9)) + (12 * (tn y))) + (tn x)), (m_g (ix p9 (σ.1 924 0) ∧ (ix x 12 ∧ ix y 12)) (ix w 5) (True) σ))) else (if w = nI 1 then ((msz (((144 * (tn p9)) + (12 * (tn y))) + (tn x)) (m_g (ix p9 (σ.1 924 0) ∧ (ix x 12 ∧ ix y 12)) (ix w 5) (True) σ), (m_g (ix p9 (σ.1 924 0) ∧ (ix x 12 ∧ ix y 12)) (ix w 5) (True) σ))) else (if w = nI 2 then ((σ.2.2.2 917 0 (((144 * (tn p9)) + (12 * (tn y))) + (tn x)), (m_g (ix p9 (σ.1 924 0) ∧ (ix x 12 ∧ ix y 12)) (ix w 5) (True) σ))) else (if w = nI 3 then ((mcau (((144 * (tn p9)) + (12 * (tn y))) + (tn x)) (m_g (ix p9 (σ.1 924 0) ∧ (ix x 12 ∧ ix y 12)) (ix w 5) (True) σ), (m_g (ix p9 (σ.1 924 0) ∧ (ix x 12 ∧ ix y 12)) (ix w 5) (True) σ))) else ((σ.2.2.2 916 0 (((144 * (tn p9)) + (12 * (tn y))) + (tn x)), (m_g (ix p9 (σ.1 924 0) ∧ (ix x 12 ∧ ix y 12)) (ix w 5) (True) σ))))))) else (nI 0, (m_g (ix p9 (σ.1 924 0) ∧ (ix x 12 ∧ ix y 12)) (ix w 5) (True) σ))
def plc (q : Nat → Nat) (p : Nat) : Nat → Int32
  | 0 => (-1)
  | k + 1 => if q k = p then nI k else plc q p k
def m_ofPallet (p9 w : Int32) (σ : St) : Int32 × St := if (ix p9 (σ.1 924 0)) ∧ (ix w 4) ∧ (True) then (if ¬ w = 0 then (if ¬ w = (nI 1) then (if ¬ w = (nI 2) then (σ.2.2.2 923 0 (tn p9), (m_g (ix p9 (σ.1 924 0)) (ix w 4) (True) σ)) else ((plc (σ.2.2.1 925 0) (tn p9) (σ.1 926 0)), (m_g (ix p9 (σ.1 924 0)) (ix w 4) (True) σ))) else (nI (σ.2.2.1 922 0 (tn p9)), (m_g (ix p9 (σ.1 924 0)) (ix w 4) (True) σ))) else (σ.2.2.2 920 0 (tn p9), (m_g (ix p9 (σ.1 924 0)) (ix w 4) (True) σ))) else (nI 0, (m_g (ix p9 (σ.1 924 0)) (ix w 4) (True) σ))
def m_ofPaper (p9 w : Int32) (σ : St) : Int32 × St := if ¬ ((ix p9 (σ.1 934 0)) ∧ (ix w 11) ∧ (True)) then (nI 0, (m_g (ix p9 (σ.1 934 0)) (ix w 11) (True) σ)) else (σ.2.2.2 933 0 ((18 * (tn p9)) + (tn w)), (m_g (ix p9 (σ.1 934 0)) (ix w 11) (True) σ))
def m_judgeAnew (p9 : Int32) (nf : Nat → Nat) (σ : St) : Int32 × St := if ¬ ((ix p9 (σ.1 934 0)) ∧ (True) ∧ (True)) then (nI 0, (m_g (ix p9 (σ.1 934 0)) (True) (True) σ)) else (vdl (vdf (tn p9) (m_g (ix p9 (σ.1 934 0)) (True) (True) σ)) (nf (tn p9)), (m_g (ix p9 (σ.1 934 0)) (True) (True) σ))
end P13
section P14
def m_cutsIn (p9 i9 t9 : Nat) (σ : St) : St := (wN (wN (wB (wB (wB (wB (wB σ 917 0 (144 * p9 + i9) (nI t9)) 918 0 (4 * (144 * p9 + i9)) (σ.2.2.2 905 0 (i9 % 12))) 918 0 ((4 * (144 * p9 + i9)) + 1) (nI (((σ.1 901 0) * (i9 % 12)) / 10))) 918 0 ((4 * (144 * p9 + i9)) + 2) (nI ((σ.2.2.1 908 0 t9) / 4))) 918 0 ((4 * (144 * p9 + i9)) + 3) (-(σ.2.2.2 910 0 t9))) 901 0 ((σ.1 901 0) + (if 99 ≤ σ.1 901 0 then 0 else 1))) 900 0 ((σ.1 900 0) + 1))
/-- the lowest tool from k on, of f: loaded, of the kind, with some life left by u -/
def tff (l9 kd : Nat → Int32) (u lv : Nat → Nat) (its : Int32) : Nat → Nat → Int32
  | 0, _ => (-1)
  | f + 1, k => if ¬ l9 k = 0 ∧ kd k = its ∧ u k < lv k then nI k else tff l9 kd u lv its f (k + 1)
theorem tff_ix {l9 kd : Nat → Int32} {u lv : Nat → Nat} {its : Int32} : ∀ (f k : Nat), f + k ≤ 16 → ¬ tff l9 kd u lv its f k = (-1) → ix (tff l9 kd u lv its f k) (f + k)
  | 0, k, _, h => absurd rfl h
  | f + 1, k, hb, h => by
    unfold tff at h ⊢
    by_cases c : ¬ l9 k = 0 ∧ kd k = its ∧ u k < lv k
    · rw [if_pos c]
      exact (ix_nI (by omega)).mpr (by omega)
    · rw [if_neg c] at h ⊢
      have := tff_ix f (k + 1) (by omega) h
      rw [show f + 1 + k = f + (k + 1) by omega]
      exact this
theorem tff_lt {l9 kd : Nat → Int32} {u lv : Nat → Nat} {its : Int32} : ∀ (f k : Nat), f + k ≤ 16 → ¬ tff l9 kd u lv its f k = (-1) → u (tn (tff l9 kd u lv its f k)) < lv (tn (tff l9 kd u lv its f k))
  | 0, k, _, h => absurd rfl h
  | f + 1, k, hb, h => by
    unfold tff at h ⊢
    by_cases c : ¬ l9 k = 0 ∧ kd k = its ∧ u k < lv k
    · rw [if_pos c, tn_nI (by omega)]
      exact c.2.2
    · rw [if_neg c] at h ⊢
      exact tff_lt f (k + 1) (by omega) h
def m_tf (U : Nat) (its : Int32) (σ : St) : Int32 := tff (σ.2.2.2 911 0) (σ.2.2.2 906 0) (σ.2.2.1 U 0) (σ.2.2.1 907 0) its (σ.1 914 0) 0
theorem m_tf_ix {U : Nat} {its : Int32} {σ : St} (hT : σ.1 914 0 ≤ 16) (h : ¬ m_tf U its σ = (-1)) : ix (m_tf U its σ) (σ.1 914 0) := tff_ix _ _ hT h
/-- what a walk's state keeps: where the spindle is, its tool's kind, the tools -/
def SI (σ : St) : Prop := σ.2.2.1 937 0 0 < 12 ∧ σ.2.2.1 937 0 1 < 12 ∧ σ.2.2.1 937 0 2 < 10 ∧ (¬ σ.2.1 942 0 = (-1) → ix (σ.2.1 942 0) 4) ∧ σ.1 914 0 ≤ 16 ∧ (∀ k, σ.2.2.1 907 0 k ≤ 500) ∧ (∀ k, σ.2.2.1 908 0 k ≤ 500) ∧ (∀ k, σ.2.2.1 909 0 k ≤ 500) ∧ σ.1 901 0 ≤ 99
def m_step0 (p9 fr : Nat) (σ : St) : Int32 × St := if fr ≤ (σ.1 943 0) then (if (nI (σ.2.2.1 937 0 2)) < (σ.2.2.2 916 0 (144 * p9 + ((12 * (σ.2.2.1 937 0 1)) + (σ.2.2.1 937 0 0)))) then (nI 3, σ) else (if ¬ (nI (σ.2.2.1 937 0 2) < σ.2.2.2 935 0 (12 * σ.2.2.1 937 0 1 + σ.2.2.1 937 0 0)) then (nI 0, (wN σ 943 0 ((σ.1 943 0) + 1))) else (if (σ.2.1 940 0) = 0 then (nI 3, σ) else (if ¬ (σ.2.1 942 0) = (-1) then (nI 0, (wN (wB (wA σ 936 0 (tn (σ.2.1 942 0)) ((σ.2.2.1 936 0 (tn (σ.2.1 942 0))) + 1)) 935 0 ((12 * (σ.2.2.1 937 0 1)) + (σ.2.2.1 937 0 0)) (nI (σ.2.2.1 937 0 2))) 943 0 ((σ.1 943 0) + 1))) else (nI 3, σ))))) else (nI 0, (wN σ 943 0 ((σ.1 943 0) + 1)))
def m_step1 (p9 fr : Nat) (σ : St) : Int32 × St := if fr ≤ (σ.1 943 0) then (if (nI (σ.2.2.1 937 0 2)) < (σ.2.2.2 916 0 (144 * p9 + ((12 * (σ.2.2.1 937 0 1)) + (σ.2.2.1 937 0 0)))) then (nI 3, σ) else (if ¬ (nI (σ.2.2.1 937 0 2) < σ.2.2.2 935 0 (12 * σ.2.2.1 937 0 1 + σ.2.2.1 937 0 0)) then (nI 0, (wN σ 943 0 ((σ.1 943 0) + 1))) else (if (σ.2.1 940 0) = 0 then (nI 3, σ) else (if ¬ (σ.2.1 942 0) = (-1) then (if ¬ (m_tf 909 (σ.2.1 942 0) σ) = (-1) then (nI 0, (wN (wB (wA (wA σ 909 0 (tn (m_tf 909 (σ.2.1 942 0) σ)) ((σ.2.2.1 909 0 (tn (m_tf 909 (σ.2.1 942 0) σ))) + 1)) 936 0 (tn (σ.2.1 942 0)) ((σ.2.2.1 936 0 (tn (σ.2.1 942 0))) + 1)) 935 0 ((12 * (σ.2.2.1 937 0 1)) + (σ.2.2.1 937 0 0)) (nI (σ.2.2.1 937 0 2))) 943 0 ((σ.1 943 0) + 1))) else ((-1), σ)) else (nI 3, σ))))) else (nI 0, (wN σ 943 0 ((σ.1 943 0) + 1)))
def m_step2 (p9 fr : Nat) (σ : St) : Int32 × St := if fr ≤ (σ.1 943 0) then (if (nI (σ.2.2.1 937 0 2)) < (σ.2.2.2 916 0 (144 * p9 + ((12 * (σ.2.2.1 937 0 1)) + (σ.2.2.1 937 0 0)))) then (nI 3, σ) else (if ¬ (nI (σ.2.2.1 937 0 2) < σ.2.2.2 935 0 (12 * σ.2.2.1 937 0 1 + σ.2.2.1 937 0 0)) then (nI 0, (wN σ 943 0 ((σ.1 943 0) + 1))) else (if (σ.2.1 940 0) = 0 then (nI 3, σ) else (if ¬ (σ.2.1 942 0) = (-1) then (if ¬ (m_tf 908 (σ.2.1 942 0) σ) = (-1) then (nI 0, (wN (wB (wA (wA (m_cutsIn p9 ((12 * (σ.2.2.1 937 0 1)) + (σ.2.2.1 937 0 0)) (tn (m_tf 908 (σ.2.1 942 0) σ)) σ) 908 0 (tn (m_tf 908 (σ.2.1 942 0) σ)) ((σ.2.2.1 908 0 (tn (m_tf 908 (σ.2.1 942 0) σ))) + 1)) 936 0 (tn (σ.2.1 942 0)) ((σ.2.2.1 936 0 (tn (σ.2.1 942 0))) + 1)) 935 0 ((12 * (σ.2.2.1 937 0 1)) + (σ.2.2.1 937 0 0)) (nI (σ.2.2.1 937 0 2))) 943 0 ((σ.1 943 0) + 1))) else ((-1), σ)) else (nI 3, σ))))) else (nI 0, (wN σ 943 0 ((σ.1 943 0) + 1)))
end P14
section P15
/-! what a step keeps -/
theorem wA_s {σ : St} {F k i v : Nat} : (wA σ F k i v).2.2.1 F k = up1 (σ.2.2.1 F k) i v := up3_s
theorem wB_s {σ : St} {F k i : Nat} {v : Int32} : (wB σ F k i v).2.2.2 F k = up1 (σ.2.2.2 F k) i v := up3_s
theorem SI_w {σ σ' : St} (h : SI σ) (h1 : σ'.2.2.1 937 0 = σ.2.2.1 937 0) (h2 : σ'.2.1 942 0 = σ.2.1 942 0) (h3 : σ'.1 914 0 = σ.1 914 0) (h4 : σ'.2.2.1 907 0 = σ.2.2.1 907 0) (h5 : ∀ k, σ'.2.2.1 908 0 k ≤ 500) (h6 : ∀ k, σ'.2.2.1 909 0 k ≤ 500) (h7 : σ'.1 901 0 ≤ 99) : SI σ' := by
  unfold SI at h ⊢
  rw [h1, h2, h3, h4]
  exact ⟨h.1, h.2.1, h.2.2.1, h.2.2.2.1, h.2.2.2.2.1, h.2.2.2.2.2.1, h5, h6, h7⟩
theorem SI_g {σ : St} (h : SI σ) {F k v : Nat} (h1 : F ≠ 914) (h2 : F ≠ 901) : SI (wN σ F k v) := SI_w h rfl rfl (up2_n (fun z => h1 z.1.symm)) rfl h.2.2.2.2.2.2.1 h.2.2.2.2.2.2.2.1 (by show up2 _ _ _ _ _ _ ≤ 99; rw [up2_n (fun z => h2 z.1.symm)]; exact h.2.2.2.2.2.2.2.2)
theorem SI_b {σ : St} (h : SI σ) {F k i : Nat} {v : Int32} : SI (wB σ F k i v) := SI_w h rfl rfl rfl rfl h.2.2.2.2.2.2.1 h.2.2.2.2.2.2.2.1 h.2.2.2.2.2.2.2.2
theorem up1_le {f : Nat → Nat} {i v b : Nat} (h : ∀ k, f k ≤ b) (hv : v ≤ b) : ∀ k, up1 f i v k ≤ b := fun k => by
  unfold up1
  split
  · exact hv
  · exact h k
theorem SI_c {σ : St} (h : SI σ) {i v : Nat} : SI (wA σ 936 0 i v) := SI_w h rfl rfl rfl rfl h.2.2.2.2.2.2.1 h.2.2.2.2.2.2.2.1 h.2.2.2.2.2.2.2.2
theorem SI_u {σ : St} (h : SI σ) {i v : Nat} (hv : v ≤ 500) : SI (wA σ 908 0 i v) := SI_w h rfl rfl rfl rfl (by rw [wA_s]; exact up1_le h.2.2.2.2.2.2.1 hv) h.2.2.2.2.2.2.2.1 h.2.2.2.2.2.2.2.2
theorem SI_s {σ : St} (h : SI σ) {i v : Nat} (hv : v ≤ 500) : SI (wA σ 909 0 i v) := SI_w h rfl rfl rfl rfl h.2.2.2.2.2.2.1 (by rw [wA_s]; exact up1_le h.2.2.2.2.2.2.2.1 hv) h.2.2.2.2.2.2.2.2
theorem SI_cut {σ : St} (h : SI σ) {p i t : Nat} : SI (m_cutsIn p i t σ) := SI_w h rfl rfl rfl rfl h.2.2.2.2.2.2.1 h.2.2.2.2.2.2.2.1 (by
  show σ.1 901 0 + (if 99 ≤ σ.1 901 0 then 0 else 1) ≤ 99
  have := h.2.2.2.2.2.2.2.2
  split <;> omega)
def m_lim (a : Nat) : Nat := if ¬ a = 2 then 11 else 9
theorem SI_at {σ : St} (h : SI σ) {a v : Nat} (hv : v ≤ m_lim a) : SI (wA σ 937 0 a v) := by
  obtain ⟨h1, h2, h3, h4⟩ := h
  have e : ∀ k, (wA σ 937 0 a v).2.2.1 937 0 k = if k = a then v else σ.2.2.1 937 0 k := fun k => by
    rw [wA_s]
    rfl
  unfold m_lim at hv
  refine ⟨?_, ?_, ?_, h4⟩
  · rw [e]; split
    · rename_i z; subst z; exact Nat.lt_succ_of_le hv
    · exact h1
  · rw [e]; split
    · rename_i z; subst z; exact Nat.lt_succ_of_le hv
    · exact h2
  · rw [e]; split
    · rename_i z; subst z; exact Nat.lt_succ_of_le hv
    · exact h3
theorem SI_lim {σ : St} (h : SI σ) {a : Nat} (ha : a < 3) : σ.2.2.1 937 0 a ≤ m_lim a := by
  obtain ⟨h1, h2, h3, -⟩ := h
  unfold m_lim
  rcases (by omega : a = 0 ∨ a = 1 ∨ a = 2) with rfl | rfl | rfl
  · exact Nat.le_of_lt_succ h1
  · exact Nat.le_of_lt_succ h2
  · exact Nat.le_of_lt_succ h3
theorem m_tf_lt {U : Nat} {its : Int32} {σ : St} (hT : σ.1 914 0 ≤ 16) (h : ¬ m_tf U its σ = (-1)) : σ.2.2.1 U 0 (tn (m_tf U its σ)) < σ.2.2.1 907 0 (tn (m_tf U its σ)) := tff_lt _ _ hT h
theorem SI_step0 {σ : St} (h : SI σ) (p fr : Nat) : SI (m_step0 p fr σ).2 := by
  unfold m_step0
  repeat' split
  all_goals first | exact h | exact SI_g h (by decide) (by decide) | exact SI_g (SI_b (SI_c h)) (by decide) (by decide)
theorem SI_step1 {σ : St} (h : SI σ) (p fr : Nat) : SI (m_step1 p fr σ).2 := by
  unfold m_step1
  repeat' split
  all_goals first | exact h | exact SI_g h (by decide) (by decide) | skip
  rename_i c9
  refine SI_g (SI_b (SI_c (SI_s h ?_))) (by decide) (by decide)
  have h1 := m_tf_lt h.2.2.2.2.1 c9
  have h2 := h.2.2.2.2.2.1 (tn (m_tf 909 (σ.2.1 942 0) σ))
  omega
theorem SI_step2 {σ : St} (h : SI σ) (p fr : Nat) : SI (m_step2 p fr σ).2 := by
  unfold m_step2
  repeat' split
  all_goals first | exact h | exact SI_g h (by decide) (by decide) | skip
  rename_i c9
  refine SI_g (SI_b (SI_c (SI_u (SI_cut h) ?_))) (by decide) (by decide)
  have h1 := m_tf_lt h.2.2.2.2.1 c9
  have h2 := h.2.2.2.2.2.1 (tn (m_tf 908 (σ.2.1 942 0) σ))
  omega
theorem at_step0 (p fr : Nat) (σ : St) : (m_step0 p fr σ).2.2.2.1 937 = σ.2.2.1 937 := by
  unfold m_step0
  repeat' split
  all_goals rfl
theorem st_step0 (p fr : Nat) (σ : St) : (m_step0 p fr σ).2.1 943 0 ≤ σ.1 943 0 + 1 := by
  unfold m_step0
  repeat' split
  all_goals first | exact Nat.le_succ _ | exact Nat.le_refl _
theorem at_step1 (p fr : Nat) (σ : St) : (m_step1 p fr σ).2.2.2.1 937 = σ.2.2.1 937 := by
  unfold m_step1
  repeat' split
  all_goals rfl
theorem st_step1 (p fr : Nat) (σ : St) : (m_step1 p fr σ).2.1 943 0 ≤ σ.1 943 0 + 1 := by
  unfold m_step1
  repeat' split
  all_goals first | exact Nat.le_succ _ | exact Nat.le_refl _
theorem at_step2 (p fr : Nat) (σ : St) : (m_step2 p fr σ).2.2.2.1 937 = σ.2.2.1 937 := by
  unfold m_step2
  repeat' split
  all_goals rfl
theorem st_step2 (p fr : Nat) (σ : St) : (m_step2 p fr σ).2.1 943 0 ≤ σ.1 943 0 + 1 := by
  unfold m_step2
  repeat' split
  all_goals first | exact Nat.le_succ _ | exact Nat.le_refl _
def m_dist (x y : Nat) : Nat := (x - y) + (y - x)
def m_nx (x to : Nat) : Nat := if to ≤ x then x - 1 else x + 1
theorem stp {x to : Nat} (hx : x < 100) (h : ¬ x = to) : nI x + (if to ≤ x then (-1) else nI 1) = nI (m_nx x to) := by
  unfold m_nx
  split
  · obtain ⟨z, rfl⟩ : ∃ z, x = z + 1 := ⟨x - 1, by omega⟩
    exact pk_m1 z
  · exact nI_add _ _
theorem nx_lim {x to b : Nat} (hx : x ≤ b) (ht : to ≤ b) (h : ¬ x = to) : m_nx x to ≤ b := by
  unfold m_nx
  split <;> omega
theorem nx_dist {x to : Nat} (h : ¬ x = to) : m_dist (m_nx x to) to + 1 = m_dist x to := by
  unfold m_nx m_dist
  split <;> omega
def m_to (a : Nat) (v : Int32) (σ : St) : Int32 := if ¬ σ.2.1 941 0 = 0 then nI (σ.2.2.1 937 0 a) + v else v
def m_mv0 (p fr a to : Nat) : Nat → St → Int32 × St
  | 0, σ => (nI 0, σ)
  | f + 1, σ => if (m_step0 p fr (wA σ 937 0 a (m_nx (σ.2.2.1 937 0 a) to))).1 = 0 then m_mv0 p fr a to f (m_step0 p fr (wA σ 937 0 a (m_nx (σ.2.2.1 937 0 a) to))).2 else m_step0 p fr (wA σ 937 0 a (m_nx (σ.2.2.1 937 0 a) to))
def m_moves0 (p a : Nat) (v : Int32) (fr : Nat) (σ : St) : Int32 × St := if ix (m_to a v σ) (m_lim a + 1) then m_mv0 p fr a (tn (m_to a v σ)) (m_dist (σ.2.2.1 937 0 a) (tn (m_to a v σ))) σ else (nI 1, σ)
theorem mv_at0 (p fr a x : Nat) (σ : St) : (m_step0 p fr (wA σ 937 0 a x)).2.2.2.1 937 0 a = x := by
  rw [at_step0, wA_s, up1_s]
def m_mv1 (p fr a to : Nat) : Nat → St → Int32 × St
  | 0, σ => (nI 0, σ)
  | f + 1, σ => if (m_step1 p fr (wA σ 937 0 a (m_nx (σ.2.2.1 937 0 a) to))).1 = 0 then m_mv1 p fr a to f (m_step1 p fr (wA σ 937 0 a (m_nx (σ.2.2.1 937 0 a) to))).2 else m_step1 p fr (wA σ 937 0 a (m_nx (σ.2.2.1 937 0 a) to))
def m_moves1 (p a : Nat) (v : Int32) (fr : Nat) (σ : St) : Int32 × St := if ix (m_to a v σ) (m_lim a + 1) then m_mv1 p fr a (tn (m_to a v σ)) (m_dist (σ.2.2.1 937 0 a) (tn (m_to a v σ))) σ else (nI 1, σ)
theorem mv_at1 (p fr a x : Nat) (σ : St) : (m_step1 p fr (wA σ 937 0 a x)).2.2.2.1 937 0 a = x := by
  rw [at_step1, wA_s, up1_s]
def m_mv2 (p fr a to : Nat) : Nat → St → Int32 × St
  | 0, σ => (nI 0, σ)
  | f + 1, σ => if (m_step2 p fr (wA σ 937 0 a (m_nx (σ.2.2.1 937 0 a) to))).1 = 0 then m_mv2 p fr a to f (m_step2 p fr (wA σ 937 0 a (m_nx (σ.2.2.1 937 0 a) to))).2 else m_step2 p fr (wA σ 937 0 a (m_nx (σ.2.2.1 937 0 a) to))
def m_moves2 (p a : Nat) (v : Int32) (fr : Nat) (σ : St) : Int32 × St := if ix (m_to a v σ) (m_lim a + 1) then m_mv2 p fr a (tn (m_to a v σ)) (m_dist (σ.2.2.1 937 0 a) (tn (m_to a v σ))) σ else (nI 1, σ)
theorem mv_at2 (p fr a x : Nat) (σ : St) : (m_step2 p fr (wA σ 937 0 a x)).2.2.2.1 937 0 a = x := by
  rw [at_step2, wA_s, up1_s]
def m_sets (w v : Int32) (σ : St) : Int32 × St := if ¬ w = (nI 5) then (nI 0, (wI (wI (wI σ 940 0 (if ¬ w = 0 then σ.2.1 940 0 else v)) 941 0 (if ¬ w = nI 1 then σ.2.1 941 0 else v)) 942 0 (if ¬ w = nI 5 then σ.2.1 942 0 else v))) else (if (σ.2.2.1 937 0 2) = 9 then (nI 0, (wI (wI (wI σ 940 0 (if ¬ w = 0 then σ.2.1 940 0 else v)) 941 0 (if ¬ w = nI 1 then σ.2.1 941 0 else v)) 942 0 (if ¬ w = nI 5 then σ.2.1 942 0 else v))) else (nI 2, σ))
end P15
section P16
/-- a walk leaves the programs, and the rows of what is open, as they are -/
def SP (σ σ' : St) : Prop := σ'.2.2.2 902 = σ.2.2.2 902 ∧ σ'.2.2.1 903 = σ.2.2.1 903 ∧ σ'.2.2.1 938 = σ.2.2.1 938 ∧ σ'.2.2.1 939 = σ.2.2.1 939 ∧ σ'.1 904 = σ.1 904
theorem SP.rf {σ : St} : SP σ σ := ⟨rfl, rfl, rfl, rfl, rfl⟩
theorem SP.tr {a b c : St} (h : SP a b) (h2 : SP b c) : SP a c := ⟨h2.1.trans h.1, h2.2.1.trans h.2.1, h2.2.2.1.trans h.2.2.1, h2.2.2.2.1.trans h.2.2.2.1, h2.2.2.2.2.trans h.2.2.2.2⟩
theorem SP_step0 (p fr : Nat) (σ : St) : SP σ (m_step0 p fr σ).2 := by
  unfold m_step0
  repeat' split
  all_goals exact ⟨rfl, rfl, rfl, rfl, rfl⟩
theorem mv_all0 (p fr a to : Nat) (ha : a < 3) (hto : to ≤ m_lim a) : ∀ (f : Nat) (σ : St), m_dist (σ.2.2.1 937 0 a) to = f → SI σ → SP σ (m_mv0 p fr a to f σ).2 ∧ SI (m_mv0 p fr a to f σ).2 ∧ (m_mv0 p fr a to f σ).2.1 943 0 ≤ σ.1 943 0 + f
  | 0, σ, _, hs => ⟨SP.rf, hs, Nat.le_refl _⟩
  | f + 1, σ, hd, hs => by
    have hne : ¬ σ.2.2.1 937 0 a = to := fun z => by rw [z] at hd; unfold m_dist at hd; omega
    have hnd := nx_dist hne
    have hs1 := SI_at hs (nx_lim (SI_lim hs ha) hto hne)
    have h1 := SP_step0 p fr (wA σ 937 0 a (m_nx (σ.2.2.1 937 0 a) to))
    have h2 := SI_step0 hs1 p fr
    have h3 := st_step0 p fr (wA σ 937 0 a (m_nx (σ.2.2.1 937 0 a) to))
    have h4 : (wA σ 937 0 a (m_nx (σ.2.2.1 937 0 a) to)).1 943 0 = σ.1 943 0 := rfl
    have h5 : SP σ (wA σ 937 0 a (m_nx (σ.2.2.1 937 0 a) to)) := ⟨rfl, rfl, rfl, rfl, rfl⟩
    unfold m_mv0
    split
    · have h6 := mv_all0 p fr a to ha hto f (m_step0 p fr (wA σ 937 0 a (m_nx (σ.2.2.1 937 0 a) to))).2 (by rw [mv_at0]; omega) h2
      exact ⟨(h5.tr h1).tr h6.1, h6.2.1, by omega⟩
    · exact ⟨h5.tr h1, h2, by omega⟩
theorem moves_all0 {p a : Nat} {v : Int32} {fr : Nat} {σ : St} (ha : a < 3) (hs : SI σ) : SP σ (m_moves0 p a v fr σ).2 ∧ SI (m_moves0 p a v fr σ).2 ∧ (m_moves0 p a v fr σ).2.1 943 0 ≤ σ.1 943 0 + 11 := by
  unfold m_moves0
  split
  · rename_i c
    have hto : tn (m_to a v σ) ≤ m_lim a := Nat.le_of_lt_succ (ix_lt c)
    have h1 := mv_all0 p fr a (tn (m_to a v σ)) ha hto _ σ rfl hs
    refine ⟨h1.1, h1.2.1, ?_⟩
    have h2 := SI_lim hs ha
    have h3 : m_lim a ≤ 11 := by unfold m_lim; split <;> decide
    have h4 : m_dist (σ.2.2.1 937 0 a) (tn (m_to a v σ)) ≤ 11 := by unfold m_dist; omega
    omega
  · exact ⟨SP.rf, hs, Nat.le_add_right _ _⟩
theorem SP_step1 (p fr : Nat) (σ : St) : SP σ (m_step1 p fr σ).2 := by
  unfold m_step1
  repeat' split
  all_goals exact ⟨rfl, rfl, rfl, rfl, rfl⟩
theorem mv_all1 (p fr a to : Nat) (ha : a < 3) (hto : to ≤ m_lim a) : ∀ (f : Nat) (σ : St), m_dist (σ.2.2.1 937 0 a) to = f → SI σ → SP σ (m_mv1 p fr a to f σ).2 ∧ SI (m_mv1 p fr a to f σ).2 ∧ (m_mv1 p fr a to f σ).2.1 943 0 ≤ σ.1 943 0 + f
  | 0, σ, _, hs => ⟨SP.rf, hs, Nat.le_refl _⟩
  | f + 1, σ, hd, hs => by
    have hne : ¬ σ.2.2.1 937 0 a = to := fun z => by rw [z] at hd; unfold m_dist at hd; omega
    have hnd := nx_dist hne
    have hs1 := SI_at hs (nx_lim (SI_lim hs ha) hto hne)
    have h1 := SP_step1 p fr (wA σ 937 0 a (m_nx (σ.2.2.1 937 0 a) to))
    have h2 := SI_step1 hs1 p fr
    have h3 := st_step1 p fr (wA σ 937 0 a (m_nx (σ.2.2.1 937 0 a) to))
    have h4 : (wA σ 937 0 a (m_nx (σ.2.2.1 937 0 a) to)).1 943 0 = σ.1 943 0 := rfl
    have h5 : SP σ (wA σ 937 0 a (m_nx (σ.2.2.1 937 0 a) to)) := ⟨rfl, rfl, rfl, rfl, rfl⟩
    unfold m_mv1
    split
    · have h6 := mv_all1 p fr a to ha hto f (m_step1 p fr (wA σ 937 0 a (m_nx (σ.2.2.1 937 0 a) to))).2 (by rw [mv_at1]; omega) h2
      exact ⟨(h5.tr h1).tr h6.1, h6.2.1, by omega⟩
    · exact ⟨h5.tr h1, h2, by omega⟩
theorem moves_all1 {p a : Nat} {v : Int32} {fr : Nat} {σ : St} (ha : a < 3) (hs : SI σ) : SP σ (m_moves1 p a v fr σ).2 ∧ SI (m_moves1 p a v fr σ).2 ∧ (m_moves1 p a v fr σ).2.1 943 0 ≤ σ.1 943 0 + 11 := by
  unfold m_moves1
  split
  · rename_i c
    have hto : tn (m_to a v σ) ≤ m_lim a := Nat.le_of_lt_succ (ix_lt c)
    have h1 := mv_all1 p fr a (tn (m_to a v σ)) ha hto _ σ rfl hs
    refine ⟨h1.1, h1.2.1, ?_⟩
    have h2 := SI_lim hs ha
    have h3 : m_lim a ≤ 11 := by unfold m_lim; split <;> decide
    have h4 : m_dist (σ.2.2.1 937 0 a) (tn (m_to a v σ)) ≤ 11 := by unfold m_dist; omega
    omega
  · exact ⟨SP.rf, hs, Nat.le_add_right _ _⟩
theorem SP_step2 (p fr : Nat) (σ : St) : SP σ (m_step2 p fr σ).2 := by
  unfold m_step2
  repeat' split
  all_goals exact ⟨rfl, rfl, rfl, rfl, rfl⟩
theorem mv_all2 (p fr a to : Nat) (ha : a < 3) (hto : to ≤ m_lim a) : ∀ (f : Nat) (σ : St), m_dist (σ.2.2.1 937 0 a) to = f → SI σ → SP σ (m_mv2 p fr a to f σ).2 ∧ SI (m_mv2 p fr a to f σ).2 ∧ (m_mv2 p fr a to f σ).2.1 943 0 ≤ σ.1 943 0 + f
  | 0, σ, _, hs => ⟨SP.rf, hs, Nat.le_refl _⟩
  | f + 1, σ, hd, hs => by
    have hne : ¬ σ.2.2.1 937 0 a = to := fun z => by rw [z] at hd; unfold m_dist at hd; omega
    have hnd := nx_dist hne
    have hs1 := SI_at hs (nx_lim (SI_lim hs ha) hto hne)
    have h1 := SP_step2 p fr (wA σ 937 0 a (m_nx (σ.2.2.1 937 0 a) to))
    have h2 := SI_step2 hs1 p fr
    have h3 := st_step2 p fr (wA σ 937 0 a (m_nx (σ.2.2.1 937 0 a) to))
    have h4 : (wA σ 937 0 a (m_nx (σ.2.2.1 937 0 a) to)).1 943 0 = σ.1 943 0 := rfl
    have h5 : SP σ (wA σ 937 0 a (m_nx (σ.2.2.1 937 0 a) to)) := ⟨rfl, rfl, rfl, rfl, rfl⟩
    unfold m_mv2
    split
    · have h6 := mv_all2 p fr a to ha hto f (m_step2 p fr (wA σ 937 0 a (m_nx (σ.2.2.1 937 0 a) to))).2 (by rw [mv_at2]; omega) h2
      exact ⟨(h5.tr h1).tr h6.1, h6.2.1, by omega⟩
    · exact ⟨h5.tr h1, h2, by omega⟩
theorem moves_all2 {p a : Nat} {v : Int32} {fr : Nat} {σ : St} (ha : a < 3) (hs : SI σ) : SP σ (m_moves2 p a v fr σ).2 ∧ SI (m_moves2 p a v fr σ).2 ∧ (m_moves2 p a v fr σ).2.1 943 0 ≤ σ.1 943 0 + 11 := by
  unfold m_moves2
  split
  · rename_i c
    have hto : tn (m_to a v σ) ≤ m_lim a := Nat.le_of_lt_succ (ix_lt c)
    have h1 := mv_all2 p fr a (tn (m_to a v σ)) ha hto _ σ rfl hs
    refine ⟨h1.1, h1.2.1, ?_⟩
    have h2 := SI_lim hs ha
    have h3 : m_lim a ≤ 11 := by unfold m_lim; split <;> decide
    have h4 : m_dist (σ.2.2.1 937 0 a) (tn (m_to a v σ)) ≤ 11 := by unfold m_dist; omega
    omega
  · exact ⟨SP.rf, hs, Nat.le_add_right _ _⟩
theorem sets_all {w v : Int32} {σ : St} (hs : SI σ) (hv : w = nI 5 → ix v 4) : SP σ (m_sets w v σ).2 ∧ SI (m_sets w v σ).2 ∧ (m_sets w v σ).2.1 943 0 ≤ σ.1 943 0 + 11 := by
  have key : SI (wI (wI (wI σ 940 0 (if ¬ w = 0 then σ.2.1 940 0 else v)) 941 0 (if ¬ w = nI 1 then σ.2.1 941 0 else v)) 942 0 (if ¬ w = nI 5 then σ.2.1 942 0 else v)) := by
    obtain ⟨h1, h2, h3, h4, h5⟩ := hs
    refine ⟨h1, h2, h3, ?_, h5⟩
    show ¬ (if ¬ w = nI 5 then σ.2.1 942 0 else v) = -1 → ix (if ¬ w = nI 5 then σ.2.1 942 0 else v) 4
    split
    · exact h4
    · rename_i z
      exact fun _ => hv (Classical.byContradiction z)
  have k2 : SP σ (wI (wI (wI σ 940 0 (if ¬ w = 0 then σ.2.1 940 0 else v)) 941 0 (if ¬ w = nI 1 then σ.2.1 941 0 else v)) 942 0 (if ¬ w = nI 5 then σ.2.1 942 0 else v)) := ⟨rfl, rfl, rfl, rfl, rfl⟩
  have k3 : (wI (wI (wI σ 940 0 (if ¬ w = 0 then σ.2.1 940 0 else v)) 941 0 (if ¬ w = nI 1 then σ.2.1 941 0 else v)) 942 0 (if ¬ w = nI 5 then σ.2.1 942 0 else v)).1 943 0 = σ.1 943 0 := rfl
  unfold m_sets
  generalize wI (wI (wI σ 940 0 (if ¬ w = 0 then σ.2.1 940 0 else v)) 941 0 (if ¬ w = nI 1 then σ.2.1 941 0 else v)) 942 0 (if ¬ w = nI 5 then σ.2.1 942 0 else v) = X at key k2 k3 ⊢
  repeat' split
  all_goals first | exact ⟨k2, key, by show X.1 943 0 ≤ _; omega⟩ | exact ⟨SP.rf, hs, Nat.le_add_right _ _⟩
theorem dm1 {d : Nat} (h : 0 < d) : nI d + (-1) = nI (d - 1) := by
  obtain ⟨z, rfl⟩ : ∃ z, d = z + 1 := ⟨d - 1, by omega⟩
  exact pk_m1 z
theorem wm2 {w : Int32} (h : nI 2 ≤ w ∧ w ≤ nI 4) : w - nI 2 = nI (tn w - 2) ∧ tn w - 2 < 3 ∧ w = nI (tn w) := by
  rw [fa_le, fa_le, nI_tz (by decide), nI_tz (by decide)] at h
  have h1 : ix w 5 := ⟨by omega, by omega⟩
  have h2 := ix_eq h1
  have h3 : tn w - 2 < 3 := by unfold tn; omega
  have h4 : 2 ≤ tn w := by unfold tn; omega
  refine ⟨?_, h3, h2⟩
  generalize tn w = z at h2 h3 h4 ⊢
  subst h2
  exact pk_sub h4
/-- the blocks of the programs are well formed, as far as a walk needs -/
def PI (σ : St) : Prop := σ.1 904 0 ≤ 6 ∧ ∀ i, i < σ.1 904 0 → σ.2.2.1 903 0 i ≤ 30 ∧ ∀ j, j < σ.2.2.1 903 0 i → (σ.2.2.2 902 0 (60 * i + 2 * j) = nI 6 → ix (σ.2.2.2 902 0 (60 * i + 2 * j + 1)) i) ∧ (σ.2.2.2 902 0 (60 * i + 2 * j) = nI 5 → ix (σ.2.2.2 902 0 (60 * i + 2 * j + 1)) 4)
/-- what is open: d programs, each below the one that called it -/
def SK (d pr : Nat) (σ : St) : Prop := d ≤ 6 ∧ ∀ j, j < d → σ.2.2.1 938 0 j + j ≤ pr ∧ σ.2.2.1 939 0 j ≤ σ.2.2.1 903 0 (σ.2.2.1 938 0 j)
theorem PI.sp {σ σ' : St} (h : PI σ) (s : SP σ σ') : PI σ' := by
  unfold PI at h ⊢
  rw [s.1, s.2.1, s.2.2.2.2]
  exact h
theorem SK.sp {d pr : Nat} {σ σ' : St} (h : SK d pr σ) (s : SP σ σ') : SK d pr σ' := by
  unfold SK at h ⊢
  rw [s.2.1, s.2.2.1, s.2.2.2.1]
  exact h
def m_adv (d : Nat) (σ : St) : St := wA σ 939 0 (d - 1) (σ.2.2.1 939 0 (d - 1) + 1)
def m_call (d : Nat) (v : Int32) (σ : St) : St := wA (wA (m_adv d σ) 938 0 d (tn v)) 939 0 d 0
def m_w (d : Nat) (σ : St) : Int32 := σ.2.2.2 902 0 (60 * σ.2.2.1 938 0 (d - 1) + 2 * σ.2.2.1 939 0 (d - 1))
def m_v (d : Nat) (σ : St) : Int32 := σ.2.2.2 902 0 (60 * σ.2.2.1 938 0 (d - 1) + 2 * σ.2.2.1 939 0 (d - 1) + 1)
theorem SI_adv {d : Nat} {σ : St} (h : SI σ) : SI (m_adv d σ) := SI_w h rfl rfl rfl rfl h.2.2.2.2.2.2.1 h.2.2.2.2.2.2.2.1 h.2.2.2.2.2.2.2.2
theorem SI_call {d : Nat} {v : Int32} {σ : St} (h : SI σ) : SI (m_call d v σ) := SI_w h rfl rfl rfl rfl h.2.2.2.2.2.2.1 h.2.2.2.2.2.2.2.1 h.2.2.2.2.2.2.2.2
theorem PI_adv {d : Nat} {σ : St} (h : PI σ) : PI (m_adv d σ) := h
theorem PI_call {d : Nat} {v : Int32} {σ : St} (h : PI σ) : PI (m_call d v σ) := h
theorem SK_pop {d pr : Nat} {σ : St} (h : SK d pr σ) : SK (d - 1) pr σ := ⟨by have := h.1; omega, fun j hj => h.2 j (by omega)⟩
theorem SK_adv {d pr : Nat} {σ : St} (hd : 0 < d) (h : SK d pr σ) (hne : ¬ σ.2.2.1 939 0 (d - 1) = σ.2.2.1 903 0 (σ.2.2.1 938 0 (d - 1))) : SK d pr (m_adv d σ) := by
  refine ⟨h.1, fun j hj => ?_⟩
  have h1 := h.2 j hj
  refine ⟨h1.1, ?_⟩
  show (wA σ 939 0 (d - 1) (σ.2.2.1 939 0 (d - 1) + 1)).2.2.1 939 0 j ≤ σ.2.2.1 903 0 (σ.2.2.1 938 0 j)
  rw [wA_s]
  unfold up1
  split
  · rename_i z
    subst z
    omega
  · exact h1.2
theorem SK_call {d pr : Nat} {v : Int32} {σ : St} (hd : 0 < d) (hp : pr < 6) (h : SK d pr σ) (hne : ¬ σ.2.2.1 939 0 (d - 1) = σ.2.2.1 903 0 (σ.2.2.1 938 0 (d - 1))) (hv : ix v (σ.2.2.1 938 0 (d - 1))) : SK (d + 1) pr (m_call d v σ) := by
  have h0 := h.2 (d - 1) (by omega)
  have h9 := ix_lt hv
  have h8 := SK_adv hd h hne
  refine ⟨by omega, fun j hj => ?_⟩
  show (wA (m_adv d σ) 938 0 d (tn v)).2.2.1 938 0 j + j ≤ pr ∧ (wA (wA (m_adv d σ) 938 0 d (tn v)) 939 0 d 0).2.2.1 939 0 j ≤ σ.2.2.1 903 0 ((wA (m_adv d σ) 938 0 d (tn v)).2.2.1 938 0 j)
  rw [wA_s, wA_s]
  by_cases e : j = d
  · subst e
    rw [up1_s, up1_s]
    exact ⟨by omega, Nat.zero_le _⟩
  · rw [up1_n e, up1_n e]
    exact h8.2 j (by omega)
theorem sk_ix {d pr : Nat} {σ : St} (hd : 0 < d) (hpr : pr < σ.1 904 0) (h : SK d pr σ) (hP : PI σ) : σ.2.2.1 938 0 (d - 1) < 6 ∧ σ.2.2.1 938 0 (d - 1) < σ.1 904 0 ∧ σ.2.2.1 903 0 (σ.2.2.1 938 0 (d - 1)) ≤ 30 ∧ σ.2.2.1 939 0 (d - 1) ≤ σ.2.2.1 903 0 (σ.2.2.1 938 0 (d - 1)) := by
  have h1 := h.2 (d - 1) (by omega)
  have h2 : σ.2.2.1 938 0 (d - 1) < σ.1 904 0 := by omega
  have h3 := hP.1
  exact ⟨by omega, h2, (hP.2 _ h2).1, h1.2⟩
theorem sk_bl {d pr : Nat} {σ : St} (hd : 0 < d) (hpr : pr < σ.1 904 0) (h : SK d pr σ) (hP : PI σ) (hne : ¬ σ.2.2.1 939 0 (d - 1) = σ.2.2.1 903 0 (σ.2.2.1 938 0 (d - 1))) : (m_w d σ = nI 6 → ix (m_v d σ) (σ.2.2.1 938 0 (d - 1))) ∧ (m_w d σ = nI 5 → ix (m_v d σ) 4) := by
  have h1 := sk_ix hd hpr h hP
  exact (hP.2 _ h1.2.1).2 _ (by omega)
def m_cp (p : Nat) : Nat → St → St
  | 0, σ => σ
  | n + 1, σ => wB (m_cp p n σ) 935 0 n (σ.2.2.2 915 0 (144 * p + n))
theorem m_cp_N (p : Nat) (σ : St) : ∀ n, (m_cp p n σ).1 = σ.1
  | 0 => rfl
  | n + 1 => m_cp_N p σ n
theorem m_cp_I (p : Nat) (σ : St) : ∀ n, (m_cp p n σ).2.1 = σ.2.1
  | 0 => rfl
  | n + 1 => m_cp_I p σ n
theorem m_cp_A (p : Nat) (σ : St) : ∀ n, (m_cp p n σ).2.2.1 = σ.2.2.1
  | 0 => rfl
  | n + 1 => m_cp_A p σ n
theorem m_cp_F (p F : Nat) (σ : St) (h : F ≠ 935) : ∀ n, (m_cp p n σ).2.2.2 F = σ.2.2.2 F
  | 0 => rfl
  | n + 1 => (show (wB (m_cp p n σ) 935 0 n (σ.2.2.2 915 0 (144 * p + n))).2.2.2 F = (m_cp p n σ).2.2.2 F from if_neg h).trans (m_cp_F p F σ h n)
theorem m_cp_B (p : Nat) (σ : St) (n : Nat) : (m_cp p n σ).2.2.2 915 0 = σ.2.2.2 915 0 := by rw [m_cp_F p 915 σ (by decide) n]
def m_ini0 (pr : Nat) (X : St) : St := (wA (wA (wN (wI (wI (wI (wA (wA (wA (wA (wA (wA (wA X 936 0 0 0) 936 0 1 0) 936 0 2 0) 936 0 3 0) 937 0 0 0) 937 0 1 0) 937 0 2 9) 940 0 (nI 0)) 941 0 (nI 0)) 942 0 (-1)) 943 0 0) 938 0 0 pr) 939 0 0 0)
theorem ini0_B (pr : Nat) (X : St) : (m_ini0 pr X).2.2.2 = X.2.2.2 := rfl
def m_ini (p9 pr : Nat) (σ : St) : St := m_ini0 pr (m_cp p9 144 σ)
theorem SI_ini {p pr : Nat} {σ : St} (h : SI σ) : SI (m_ini p pr σ) := by
  obtain ⟨-, -, -, -, h5, h6, h7, h8, h9⟩ := h
  refine ⟨(by decide : 0 < 12), (by decide : 0 < 12), (by decide : 9 < 10), fun z => absurd rfl z, ?_, ?_, ?_, ?_, ?_⟩
  · show (m_cp p 144 σ).1 914 0 ≤ 16
    rw [m_cp_N]; exact h5
  · show ∀ k, (m_cp p 144 σ).2.2.1 907 0 k ≤ 500
    rw [m_cp_A]; exact h6
  · show ∀ k, (m_cp p 144 σ).2.2.1 908 0 k ≤ 500
    rw [m_cp_A]; exact h7
  · show ∀ k, (m_cp p 144 σ).2.2.1 909 0 k ≤ 500
    rw [m_cp_A]; exact h8
  · show (m_cp p 144 σ).1 901 0 ≤ 99
    rw [m_cp_N]; exact h9
theorem PI_ini {p pr : Nat} {σ : St} (h : PI σ) : PI (m_ini p pr σ) := by
  have e1 : (m_ini p pr σ).2.2.2 902 = σ.2.2.2 902 := by
    unfold m_ini
    rw [ini0_B, m_cp_F p 902 σ (by decide)]
  have e2 : (m_ini p pr σ).2.2.1 903 = σ.2.2.1 903 := by
    show (m_cp p 144 σ).2.2.1 903 = _
    rw [m_cp_A]
  have e3 : (m_ini p pr σ).1 904 = σ.1 904 := by
    show (m_cp p 144 σ).1 904 = _
    rw [m_cp_N]
  unfold PI at h ⊢
  rw [e1, e2, e3]
  exact h
theorem SK_ini {p pr : Nat} {σ : St} : SK 1 pr (m_ini p pr σ) := ⟨by decide, fun j hj => by
  have : j = 0 := by omega
  subst this
  exact ⟨Nat.le_refl _, Nat.zero_le _⟩⟩
theorem ini_904 {p pr : Nat} {σ : St} : (m_ini p pr σ).1 904 0 = σ.1 904 0 := by
  show (m_cp p 144 σ).1 904 0 = _
  rw [m_cp_N]
theorem dz {d : Nat} (h : nI d + (-1) < 0) (hd : d ≤ 6) : d = 0 := by
  rcases (by omega : d = 0 ∨ d = 1 ∨ d = 2 ∨ d = 3 ∨ d = 4 ∨ d = 5 ∨ d = 6) with rfl | rfl | rfl | rfl | rfl | rfl | rfl
  · rfl
  all_goals exact absurd h (by decide)
def m_blk0 (p fr : Nat) (w v : Int32) (σ : St) : Int32 × St := if nI 2 ≤ w ∧ w ≤ nI 4 then m_moves0 p (tn w - 2) v fr σ else m_sets w v σ
def m_rl0 (p fr : Nat) : Nat → Nat → Nat → St → Int32 × St
  | 0, _, _, σ => (nI 0, σ)
  | f + 1, d, many, σ => if d = 0 then (nI 0, σ) else if σ.2.2.1 939 0 (d - 1) = σ.2.2.1 903 0 (σ.2.2.1 938 0 (d - 1)) then m_rl0 p fr f (d - 1) many σ
    else if many = 600 then (nI 4, σ) else if m_w d σ = nI 6 then m_rl0 p fr f (d + 1) (many + 1) (m_call d (m_v d σ) σ)
    else if (m_blk0 p fr (m_w d σ) (m_v d σ) (m_adv d σ)).1 = 0 then m_rl0 p fr f d (many + 1) (m_blk0 p fr (m_w d σ) (m_v d σ) (m_adv d σ)).2 else m_blk0 p fr (m_w d σ) (m_v d σ) (m_adv d σ)
def m_runs0 (p pr fr : Nat) (σ : St) : Int32 × St := m_rl0 p fr 2000 1 0 (m_ini p pr σ)
theorem blk_all0 {p fr : Nat} {w v : Int32} {σ : St} (hs : SI σ) (hv : w = nI 5 → ix v 4) : SP σ (m_blk0 p fr w v σ).2 ∧ SI (m_blk0 p fr w v σ).2 ∧ (m_blk0 p fr w v σ).2.1 943 0 ≤ σ.1 943 0 + 11 := by
  unfold m_blk0
  split
  · rename_i c
    exact moves_all0 (wm2 c).2.1 hs
  · exact sets_all hs hv
def m_blk1 (p fr : Nat) (w v : Int32) (σ : St) : Int32 × St := if nI 2 ≤ w ∧ w ≤ nI 4 then m_moves1 p (tn w - 2) v fr σ else m_sets w v σ
def m_rl1 (p fr : Nat) : Nat → Nat → Nat → St → Int32 × St
  | 0, _, _, σ => (nI 0, σ)
  | f + 1, d, many, σ => if d = 0 then (nI 0, σ) else if σ.2.2.1 939 0 (d - 1) = σ.2.2.1 903 0 (σ.2.2.1 938 0 (d - 1)) then m_rl1 p fr f (d - 1) many σ
    else if many = 600 then (nI 4, σ) else if m_w d σ = nI 6 then m_rl1 p fr f (d + 1) (many + 1) (m_call d (m_v d σ) σ)
    else if (m_blk1 p fr (m_w d σ) (m_v d σ) (m_adv d σ)).1 = 0 then m_rl1 p fr f d (many + 1) (m_blk1 p fr (m_w d σ) (m_v d σ) (m_adv d σ)).2 else m_blk1 p fr (m_w d σ) (m_v d σ) (m_adv d σ)
def m_runs1 (p pr fr : Nat) (σ : St) : Int32 × St := m_rl1 p fr 2000 1 0 (m_ini p pr σ)
theorem blk_all1 {p fr : Nat} {w v : Int32} {σ : St} (hs : SI σ) (hv : w = nI 5 → ix v 4) : SP σ (m_blk1 p fr w v σ).2 ∧ SI (m_blk1 p fr w v σ).2 ∧ (m_blk1 p fr w v σ).2.1 943 0 ≤ σ.1 943 0 + 11 := by
  unfold m_blk1
  split
  · rename_i c
    exact moves_all1 (wm2 c).2.1 hs
  · exact sets_all hs hv
def m_blk2 (p fr : Nat) (w v : Int32) (σ : St) : Int32 × St := if nI 2 ≤ w ∧ w ≤ nI 4 then m_moves2 p (tn w - 2) v fr σ else m_sets w v σ
def m_rl2 (p fr : Nat) : Nat → Nat → Nat → St → Int32 × St
  | 0, _, _, σ => (nI 0, σ)
  | f + 1, d, many, σ => if d = 0 then (nI 0, σ) else if σ.2.2.1 939 0 (d - 1) = σ.2.2.1 903 0 (σ.2.2.1 938 0 (d - 1)) then m_rl2 p fr f (d - 1) many σ
    else if many = 600 then (nI 4, σ) else if m_w d σ = nI 6 then m_rl2 p fr f (d + 1) (many + 1) (m_call d (m_v d σ) σ)
    else if (m_blk2 p fr (m_w d σ) (m_v d σ) (m_adv d σ)).1 = 0 then m_rl2 p fr f d (many + 1) (m_blk2 p fr (m_w d σ) (m_v d σ) (m_adv d σ)).2 else m_blk2 p fr (m_w d σ) (m_v d σ) (m_adv d σ)
def m_runs2 (p pr fr : Nat) (σ : St) : Int32 × St := m_rl2 p fr 2000 1 0 (m_ini p pr σ)
theorem blk_all2 {p fr : Nat} {w v : Int32} {σ : St} (hs : SI σ) (hv : w = nI 5 → ix v 4) : SP σ (m_blk2 p fr w v σ).2 ∧ SI (m_blk2 p fr w v σ).2 ∧ (m_blk2 p fr w v σ).2.1 943 0 ≤ σ.1 943 0 + 11 := by
  unfold m_blk2
  split
  · rename_i c
    exact moves_all2 (wm2 c).2.1 hs
  · exact sets_all hs hv
end P16
section P17
/-- only fields of these lists have changed -/
def FRm (lN lI lA lB : List Nat) (σ σ' : St) : Prop := (∀ F, F ∉ lN → σ'.1 F = σ.1 F) ∧ (∀ F, F ∉ lI → σ'.2.1 F = σ.2.1 F) ∧ (∀ F, F ∉ lA → σ'.2.2.1 F = σ.2.2.1 F) ∧ ∀ F, F ∉ lB → σ'.2.2.2 F = σ.2.2.2 F
section FRM
variable {lN lI lA lB : List Nat} {σ σ' σ2 : St}
theorem FRm.rf : FRm lN lI lA lB σ σ := ⟨fun _ _ => rfl, fun _ _ => rfl, fun _ _ => rfl, fun _ _ => rfl⟩
theorem FRm.tr (h : FRm lN lI lA lB σ σ') (h2 : FRm lN lI lA lB σ' σ2) : FRm lN lI lA lB σ σ2 := ⟨fun F z => (h2.1 F z).trans (h.1 F z), fun F z => (h2.2.1 F z).trans (h.2.1 F z), fun F z => (h2.2.2.1 F z).trans (h.2.2.1 F z), fun F z => (h2.2.2.2 F z).trans (h.2.2.2 F z)⟩
theorem FRm.N (h : FRm lN lI lA lB σ σ') {F k v : Nat} (hF : F ∈ lN) : FRm lN lI lA lB σ (wN σ' F k v) := ⟨fun G z => (if_neg (fun e : G = F => z (by rw [e]; exact hF))).trans (h.1 G z), h.2.1, h.2.2.1, h.2.2.2⟩
theorem FRm.I (h : FRm lN lI lA lB σ σ') {F k : Nat} {v : Int32} (hF : F ∈ lI) : FRm lN lI lA lB σ (wI σ' F k v) := ⟨h.1, fun G z => (if_neg (fun e : G = F => z (by rw [e]; exact hF))).trans (h.2.1 G z), h.2.2.1, h.2.2.2⟩
theorem FRm.A (h : FRm lN lI lA lB σ σ') {F k i v : Nat} (hF : F ∈ lA) : FRm lN lI lA lB σ (wA σ' F k i v) := ⟨h.1, h.2.1, fun G z => (if_neg (fun e : G = F => z (by rw [e]; exact hF))).trans (h.2.2.1 G z), h.2.2.2⟩
theorem FRm.B (h : FRm lN lI lA lB σ σ') {F k i : Nat} {v : Int32} (hF : F ∈ lB) : FRm lN lI lA lB σ (wB σ' F k i v) := ⟨h.1, h.2.1, h.2.2.1, fun G z => (if_neg (fun e : G = F => z (by rw [e]; exact hF))).trans (h.2.2.2 G z)⟩
end FRM
abbrev FR0 (σ σ' : St) : Prop := FRm [943] [940, 941, 942] [936, 937, 938, 939] [935] σ σ'
theorem FR_step0 (p fr : Nat) (σ : St) : FR0 σ (m_step0 p fr σ).2 := by
  unfold m_step0
  repeat' split
  all_goals (repeat' first | exact FRm.rf | refine FRm.N ?_ (by decide) | refine FRm.I ?_ (by decide) | refine FRm.A ?_ (by decide) | refine FRm.B ?_ (by decide))
theorem FR_mv0 (p fr a to : Nat) : ∀ (f : Nat) (σ : St), FR0 σ (m_mv0 p fr a to f σ).2
  | 0, σ => FRm.rf
  | f + 1, σ => by
    have h1 := (FRm.A (σ := σ) (FRm.rf (lN := [943]) (lI := [940, 941, 942]) (lA := [936, 937, 938, 939]) (lB := [935])) (F := 937) (k := 0) (i := a) (v := m_nx (σ.2.2.1 937 0 a) to) (by decide)).tr (FR_step0 p fr _)
    unfold m_mv0
    split
    · exact h1.tr (FR_mv0 p fr a to f _)
    · exact h1
theorem FR_sets0 (w v : Int32) (σ : St) : FR0 σ (m_sets w v σ).2 := by
  have key : FR0 σ (wI (wI (wI σ 940 0 (if ¬ w = 0 then σ.2.1 940 0 else v)) 941 0 (if ¬ w = nI 1 then σ.2.1 941 0 else v)) 942 0 (if ¬ w = nI 5 then σ.2.1 942 0 else v)) := FRm.I (FRm.I (FRm.I FRm.rf (by decide)) (by decide)) (by decide)
  unfold m_sets
  generalize wI (wI (wI σ 940 0 (if ¬ w = 0 then σ.2.1 940 0 else v)) 941 0 (if ¬ w = nI 1 then σ.2.1 941 0 else v)) 942 0 (if ¬ w = nI 5 then σ.2.1 942 0 else v) = X at key ⊢
  repeat' split
  all_goals first | exact key | exact FRm.rf
theorem FR_blk0 (p fr : Nat) (w v : Int32) (σ : St) : FR0 σ (m_blk0 p fr w v σ).2 := by
  unfold m_blk0
  split
  · unfold m_moves0
    split
    · exact FR_mv0 _ _ _ _ _ _
    · exact FRm.rf
  · exact FR_sets0 w v σ
theorem FR_rl0 (p fr : Nat) : ∀ (f d m : Nat) (σ : St), FR0 σ (m_rl0 p fr f d m σ).2
  | 0, _, _, σ => FRm.rf
  | f + 1, d, m, σ => by
    have ha : FR0 σ (m_adv d σ) := FRm.A FRm.rf (by decide)
    have h1 := ha.tr (FR_blk0 p fr (m_w d σ) (m_v d σ) (m_adv d σ))
    have h2 : FR0 σ (m_call d (m_v d σ) σ) := FRm.A (FRm.A ha (by decide)) (by decide)
    unfold m_rl0
    split
    · exact FRm.rf
    · split
      · exact FR_rl0 p fr f _ _ _
      · split
        · exact FRm.rf
        · split
          · exact h2.tr (FR_rl0 p fr f _ _ _)
          · split
            · exact h1.tr (FR_rl0 p fr f _ _ _)
            · exact h1
theorem FR_cp0 (p : Nat) (σ : St) : ∀ n, FR0 σ (m_cp p n σ)
  | 0 => FRm.rf
  | n + 1 => FRm.B (FR_cp0 p σ n) (by decide)
theorem FR_runs0 (p pr fr : Nat) (σ : St) : FR0 σ (m_runs0 p pr fr σ).2 := by
  have h1 : FR0 σ (m_ini p pr σ) := by
    unfold m_ini
    have h0 := FR_cp0 p σ 144
    generalize m_cp p 144 σ = X at h0 ⊢
    unfold m_ini0
    repeat' first | exact h0 | refine FRm.N ?_ (by decide) | refine FRm.I ?_ (by decide) | refine FRm.A ?_ (by decide) | refine FRm.B ?_ (by decide)
  exact h1.tr (FR_rl0 p fr _ _ _ _)
theorem rl_all0 {p pr fr : Nat} (hp6 : pr < 6) : ∀ (f d m : Nat) (σ : St), 2 * (601 - m) + d + 1 ≤ f → SI σ → PI σ → SK d pr σ → m ≤ 600 → σ.1 943 0 ≤ 11 * m → pr < σ.1 904 0 → SI (m_rl0 p fr f d m σ).2 ∧ (m_rl0 p fr f d m σ).2.1 943 0 ≤ 6611
  | 0, d, m, σ, hf, _, _, _, _, _, _ => absurd hf (by omega)
  | f + 1, d, m, σ, hf, hs, hP, hk, hm, hst, hprs => by
    unfold m_rl0
    split
    · exact ⟨hs, by show σ.1 943 0 ≤ 6611; omega⟩
    · rename_i c0
      have hd : 0 < d := Nat.pos_of_ne_zero c0
      split
      · exact rl_all0 hp6 f (d - 1) m σ (by omega) hs hP (SK_pop hk) hm hst hprs
      · rename_i c1
        have hbl := sk_bl hd hprs hk hP c1
        split
        · exact ⟨hs, by show σ.1 943 0 ≤ 6611; omega⟩
        · split
          · rename_i c2
            exact rl_all0 hp6 f (d + 1) (m + 1) _ (by omega) (SI_call hs) (PI_call hP) (SK_call hd hp6 hk c1 (hbl.1 c2)) (by omega) (by show σ.1 943 0 ≤ 11 * (m + 1); omega) hprs
          · have hba := blk_all0 (p := p) (fr := fr) (w := m_w d σ) (v := m_v d σ) (SI_adv (d := d) hs) hbl.2
            have h7 : (m_adv d σ).1 943 0 = σ.1 943 0 := rfl
            have h8 := hba.2.2
            split
            · exact rl_all0 hp6 f d (m + 1) _ (by omega) hba.2.1 ((PI_adv hP).sp hba.1) ((SK_adv hd hk c1).sp hba.1) (by omega) (by omega) (by rw [hba.1.2.2.2.2]; exact hprs)
            · exact ⟨hba.2.1, by omega⟩
theorem runs_all0 {p pr fr : Nat} {σ : St} (hs : SI σ) (hP : PI σ) (hpr : pr < σ.1 904 0) : SI (m_runs0 p pr fr σ).2 ∧ (m_runs0 p pr fr σ).2.1 943 0 ≤ 6611 :=
  rl_all0 (by have := hP.1; omega) _ _ _ _ (by decide) (SI_ini hs) (PI_ini hP) SK_ini (by decide) (Nat.zero_le _) (by rw [ini_904]; exact hpr)
theorem PI_runs0 {p pr fr : Nat} {σ : St} (hP : PI σ) : PI (m_runs0 p pr fr σ).2 := by
  have h := FR_runs0 p pr fr σ
  unfold PI at hP ⊢
  rw [h.1 904 (by decide), h.2.2.1 903 (by decide), h.2.2.2 902 (by decide)]
  exact hP
abbrev FR1 (σ σ' : St) : Prop := FRm [943] [940, 941, 942] [936, 937, 938, 939, 909] [935] σ σ'
theorem FR_step1 (p fr : Nat) (σ : St) : FR1 σ (m_step1 p fr σ).2 := by
  unfold m_step1
  repeat' split
  all_goals (repeat' first | exact FRm.rf | refine FRm.N ?_ (by decide) | refine FRm.I ?_ (by decide) | refine FRm.A ?_ (by decide) | refine FRm.B ?_ (by decide))
theorem FR_mv1 (p fr a to : Nat) : ∀ (f : Nat) (σ : St), FR1 σ (m_mv1 p fr a to f σ).2
  | 0, σ => FRm.rf
  | f + 1, σ => by
    have h1 := (FRm.A (σ := σ) (FRm.rf (lN := [943]) (lI := [940, 941, 942]) (lA := [936, 937, 938, 939, 909]) (lB := [935])) (F := 937) (k := 0) (i := a) (v := m_nx (σ.2.2.1 937 0 a) to) (by decide)).tr (FR_step1 p fr _)
    unfold m_mv1
    split
    · exact h1.tr (FR_mv1 p fr a to f _)
    · exact h1
theorem FR_sets1 (w v : Int32) (σ : St) : FR1 σ (m_sets w v σ).2 := by
  have key : FR1 σ (wI (wI (wI σ 940 0 (if ¬ w = 0 then σ.2.1 940 0 else v)) 941 0 (if ¬ w = nI 1 then σ.2.1 941 0 else v)) 942 0 (if ¬ w = nI 5 then σ.2.1 942 0 else v)) := FRm.I (FRm.I (FRm.I FRm.rf (by decide)) (by decide)) (by decide)
  unfold m_sets
  generalize wI (wI (wI σ 940 0 (if ¬ w = 0 then σ.2.1 940 0 else v)) 941 0 (if ¬ w = nI 1 then σ.2.1 941 0 else v)) 942 0 (if ¬ w = nI 5 then σ.2.1 942 0 else v) = X at key ⊢
  repeat' split
  all_goals first | exact key | exact FRm.rf
theorem FR_blk1 (p fr : Nat) (w v : Int32) (σ : St) : FR1 σ (m_blk1 p fr w v σ).2 := by
  unfold m_blk1
  split
  · unfold m_moves1
    split
    · exact FR_mv1 _ _ _ _ _ _
    · exact FRm.rf
  · exact FR_sets1 w v σ
theorem FR_rl1 (p fr : Nat) : ∀ (f d m : Nat) (σ : St), FR1 σ (m_rl1 p fr f d m σ).2
  | 0, _, _, σ => FRm.rf
  | f + 1, d, m, σ => by
    have ha : FR1 σ (m_adv d σ) := FRm.A FRm.rf (by decide)
    have h1 := ha.tr (FR_blk1 p fr (m_w d σ) (m_v d σ) (m_adv d σ))
    have h2 : FR1 σ (m_call d (m_v d σ) σ) := FRm.A (FRm.A ha (by decide)) (by decide)
    unfold m_rl1
    split
    · exact FRm.rf
    · split
      · exact FR_rl1 p fr f _ _ _
      · split
        · exact FRm.rf
        · split
          · exact h2.tr (FR_rl1 p fr f _ _ _)
          · split
            · exact h1.tr (FR_rl1 p fr f _ _ _)
            · exact h1
theorem FR_cp1 (p : Nat) (σ : St) : ∀ n, FR1 σ (m_cp p n σ)
  | 0 => FRm.rf
  | n + 1 => FRm.B (FR_cp1 p σ n) (by decide)
theorem FR_runs1 (p pr fr : Nat) (σ : St) : FR1 σ (m_runs1 p pr fr σ).2 := by
  have h1 : FR1 σ (m_ini p pr σ) := by
    unfold m_ini
    have h0 := FR_cp1 p σ 144
    generalize m_cp p 144 σ = X at h0 ⊢
    unfold m_ini0
    repeat' first | exact h0 | refine FRm.N ?_ (by decide) | refine FRm.I ?_ (by decide) | refine FRm.A ?_ (by decide) | refine FRm.B ?_ (by decide)
  exact h1.tr (FR_rl1 p fr _ _ _ _)
theorem rl_all1 {p pr fr : Nat} (hp6 : pr < 6) : ∀ (f d m : Nat) (σ : St), 2 * (601 - m) + d + 1 ≤ f → SI σ → PI σ → SK d pr σ → m ≤ 600 → σ.1 943 0 ≤ 11 * m → pr < σ.1 904 0 → SI (m_rl1 p fr f d m σ).2 ∧ (m_rl1 p fr f d m σ).2.1 943 0 ≤ 6611
  | 0, d, m, σ, hf, _, _, _, _, _, _ => absurd hf (by omega)
  | f + 1, d, m, σ, hf, hs, hP, hk, hm, hst, hprs => by
    unfold m_rl1
    split
    · exact ⟨hs, by show σ.1 943 0 ≤ 6611; omega⟩
    · rename_i c0
      have hd : 0 < d := Nat.pos_of_ne_zero c0
      split
      · exact rl_all1 hp6 f (d - 1) m σ (by omega) hs hP (SK_pop hk) hm hst hprs
      · rename_i c1
        have hbl := sk_bl hd hprs hk hP c1
        split
        · exact ⟨hs, by show σ.1 943 0 ≤ 6611; omega⟩
        · split
          · rename_i c2
            exact rl_all1 hp6 f (d + 1) (m + 1) _ (by omega) (SI_call hs) (PI_call hP) (SK_call hd hp6 hk c1 (hbl.1 c2)) (by omega) (by show σ.1 943 0 ≤ 11 * (m + 1); omega) hprs
          · have hba := blk_all1 (p := p) (fr := fr) (w := m_w d σ) (v := m_v d σ) (SI_adv (d := d) hs) hbl.2
            have h7 : (m_adv d σ).1 943 0 = σ.1 943 0 := rfl
            have h8 := hba.2.2
            split
            · exact rl_all1 hp6 f d (m + 1) _ (by omega) hba.2.1 ((PI_adv hP).sp hba.1) ((SK_adv hd hk c1).sp hba.1) (by omega) (by omega) (by rw [hba.1.2.2.2.2]; exact hprs)
            · exact ⟨hba.2.1, by omega⟩
theorem runs_all1 {p pr fr : Nat} {σ : St} (hs : SI σ) (hP : PI σ) (hpr : pr < σ.1 904 0) : SI (m_runs1 p pr fr σ).2 ∧ (m_runs1 p pr fr σ).2.1 943 0 ≤ 6611 :=
  rl_all1 (by have := hP.1; omega) _ _ _ _ (by decide) (SI_ini hs) (PI_ini hP) SK_ini (by decide) (Nat.zero_le _) (by rw [ini_904]; exact hpr)
theorem PI_runs1 {p pr fr : Nat} {σ : St} (hP : PI σ) : PI (m_runs1 p pr fr σ).2 := by
  have h := FR_runs1 p pr fr σ
  unfold PI at hP ⊢
  rw [h.1 904 (by decide), h.2.2.1 903 (by decide), h.2.2.2 902 (by decide)]
  exact hP
abbrev FR2 (σ σ' : St) : Prop := FRm [943, 900, 901] [940, 941, 942] [936, 937, 938, 939, 908] [935, 917, 918] σ σ'
theorem FR_step2 (p fr : Nat) (σ : St) : FR2 σ (m_step2 p fr σ).2 := by
  unfold m_step2 m_cutsIn
  repeat' split
  all_goals (repeat' first | exact FRm.rf | refine FRm.N ?_ (by decide) | refine FRm.I ?_ (by decide) | refine FRm.A ?_ (by decide) | refine FRm.B ?_ (by decide))
theorem FR_mv2 (p fr a to : Nat) : ∀ (f : Nat) (σ : St), FR2 σ (m_mv2 p fr a to f σ).2
  | 0, σ => FRm.rf
  | f + 1, σ => by
    have h1 := (FRm.A (σ := σ) (FRm.rf (lN := [943, 900, 901]) (lI := [940, 941, 942]) (lA := [936, 937, 938, 939, 908]) (lB := [935, 917, 918])) (F := 937) (k := 0) (i := a) (v := m_nx (σ.2.2.1 937 0 a) to) (by decide)).tr (FR_step2 p fr _)
    unfold m_mv2
    split
    · exact h1.tr (FR_mv2 p fr a to f _)
    · exact h1
theorem FR_sets2 (w v : Int32) (σ : St) : FR2 σ (m_sets w v σ).2 := by
  have key : FR2 σ (wI (wI (wI σ 940 0 (if ¬ w = 0 then σ.2.1 940 0 else v)) 941 0 (if ¬ w = nI 1 then σ.2.1 941 0 else v)) 942 0 (if ¬ w = nI 5 then σ.2.1 942 0 else v)) := FRm.I (FRm.I (FRm.I FRm.rf (by decide)) (by decide)) (by decide)
  unfold m_sets
  generalize wI (wI (wI σ 940 0 (if ¬ w = 0 then σ.2.1 940 0 else v)) 941 0 (if ¬ w = nI 1 then σ.2.1 941 0 else v)) 942 0 (if ¬ w = nI 5 then σ.2.1 942 0 else v) = X at key ⊢
  repeat' split
  all_goals first | exact key | exact FRm.rf
theorem FR_blk2 (p fr : Nat) (w v : Int32) (σ : St) : FR2 σ (m_blk2 p fr w v σ).2 := by
  unfold m_blk2
  split
  · unfold m_moves2
    split
    · exact FR_mv2 _ _ _ _ _ _
    · exact FRm.rf
  · exact FR_sets2 w v σ
theorem FR_rl2 (p fr : Nat) : ∀ (f d m : Nat) (σ : St), FR2 σ (m_rl2 p fr f d m σ).2
  | 0, _, _, σ => FRm.rf
  | f + 1, d, m, σ => by
    have ha : FR2 σ (m_adv d σ) := FRm.A FRm.rf (by decide)
    have h1 := ha.tr (FR_blk2 p fr (m_w d σ) (m_v d σ) (m_adv d σ))
    have h2 : FR2 σ (m_call d (m_v d σ) σ) := FRm.A (FRm.A ha (by decide)) (by decide)
    unfold m_rl2
    split
    · exact FRm.rf
    · split
      · exact FR_rl2 p fr f _ _ _
      · split
        · exact FRm.rf
        · split
          · exact h2.tr (FR_rl2 p fr f _ _ _)
          · split
            · exact h1.tr (FR_rl2 p fr f _ _ _)
            · exact h1
theorem FR_cp2 (p : Nat) (σ : St) : ∀ n, FR2 σ (m_cp p n σ)
  | 0 => FRm.rf
  | n + 1 => FRm.B (FR_cp2 p σ n) (by decide)
theorem FR_runs2 (p pr fr : Nat) (σ : St) : FR2 σ (m_runs2 p pr fr σ).2 := by
  have h1 : FR2 σ (m_ini p pr σ) := by
    unfold m_ini
    have h0 := FR_cp2 p σ 144
    generalize m_cp p 144 σ = X at h0 ⊢
    unfold m_ini0
    repeat' first | exact h0 | refine FRm.N ?_ (by decide) | refine FRm.I ?_ (by decide) | refine FRm.A ?_ (by decide) | refine FRm.B ?_ (by decide)
  exact h1.tr (FR_rl2 p fr _ _ _ _)
theorem rl_all2 {p pr fr : Nat} (hp6 : pr < 6) : ∀ (f d m : Nat) (σ : St), 2 * (601 - m) + d + 1 ≤ f → SI σ → PI σ → SK d pr σ → m ≤ 600 → σ.1 943 0 ≤ 11 * m → pr < σ.1 904 0 → SI (m_rl2 p fr f d m σ).2 ∧ (m_rl2 p fr f d m σ).2.1 943 0 ≤ 6611
  | 0, d, m, σ, hf, _, _, _, _, _, _ => absurd hf (by omega)
  | f + 1, d, m, σ, hf, hs, hP, hk, hm, hst, hprs => by
    unfold m_rl2
    split
    · exact ⟨hs, by show σ.1 943 0 ≤ 6611; omega⟩
    · rename_i c0
      have hd : 0 < d := Nat.pos_of_ne_zero c0
      split
      · exact rl_all2 hp6 f (d - 1) m σ (by omega) hs hP (SK_pop hk) hm hst hprs
      · rename_i c1
        have hbl := sk_bl hd hprs hk hP c1
        split
        · exact ⟨hs, by show σ.1 943 0 ≤ 6611; omega⟩
        · split
          · rename_i c2
            exact rl_all2 hp6 f (d + 1) (m + 1) _ (by omega) (SI_call hs) (PI_call hP) (SK_call hd hp6 hk c1 (hbl.1 c2)) (by omega) (by show σ.1 943 0 ≤ 11 * (m + 1); omega) hprs
          · have hba := blk_all2 (p := p) (fr := fr) (w := m_w d σ) (v := m_v d σ) (SI_adv (d := d) hs) hbl.2
            have h7 : (m_adv d σ).1 943 0 = σ.1 943 0 := rfl
            have h8 := hba.2.2
            split
            · exact rl_all2 hp6 f d (m + 1) _ (by omega) hba.2.1 ((PI_adv hP).sp hba.1) ((SK_adv hd hk c1).sp hba.1) (by omega) (by omega) (by rw [hba.1.2.2.2.2]; exact hprs)
            · exact ⟨hba.2.1, by omega⟩
theorem runs_all2 {p pr fr : Nat} {σ : St} (hs : SI σ) (hP : PI σ) (hpr : pr < σ.1 904 0) : SI (m_runs2 p pr fr σ).2 ∧ (m_runs2 p pr fr σ).2.1 943 0 ≤ 6611 :=
  rl_all2 (by have := hP.1; omega) _ _ _ _ (by decide) (SI_ini hs) (PI_ini hP) SK_ini (by decide) (Nat.zero_le _) (by rw [ini_904]; exact hpr)
theorem PI_runs2 {p pr fr : Nat} {σ : St} (hP : PI σ) : PI (m_runs2 p pr fr σ).2 := by
  have h := FR_runs2 p pr fr σ
  unfold PI at hP ⊢
  rw [h.1 904 (by decide), h.2.2.1 903 (by decide), h.2.2.2 902 (by decide)]
  exact hP
theorem SI_mg {P1 P2 P3 : Prop} [Decidable P1] [Decidable P2] [Decidable P3] {σ : St} (h : SI σ) : SI (m_g P1 P2 P3 σ) := h
theorem PI_mg {P1 P2 P3 : Prop} [Decidable P1] [Decidable P2] [Decidable P3] {σ : St} (h : PI σ) : PI (m_g P1 P2 P3 σ) := h
def m_prove (p9 q9 : Int32) (σ : St) : Int32 × St := if (ix p9 (σ.1 924 0) ∧ ix q9 (σ.1 904 0)) ∧ (True) ∧ (True) then (if ¬ ((m_runs0 (tn p9) (tn q9) 0 (m_g (ix p9 (σ.1 924 0) ∧ ix q9 (σ.1 904 0)) (True) (True) σ)).1) = 0 then ((((nI 10000) * ((m_runs0 (tn p9) (tn q9) 0 (m_g (ix p9 (σ.1 924 0) ∧ ix q9 (σ.1 904 0)) (True) (True) σ)).1)) + (nI (((m_runs0 (tn p9) (tn q9) 0 (m_g (ix p9 (σ.1 924 0) ∧ ix q9 (σ.1 904 0)) (True) (True) σ)).2).1 943 0))), (m_runs0 (tn p9) (tn q9) 0 (m_g (ix p9 (σ.1 924 0) ∧ ix q9 (σ.1 904 0)) (True) (True) σ)).2) else ((-1), (m_runs0 (tn p9) (tn q9) 0 (m_g (ix p9 (σ.1 924 0) ∧ ix q9 (σ.1 904 0)) (True) (True) σ)).2)) else (nI 0, (m_g (ix p9 (σ.1 924 0) ∧ ix q9 (σ.1 904 0)) (True) (True) σ))
def m_takes (p9 q9 : Int32) (σ : St) : Int32 × St := if (ix p9 (σ.1 924 0) ∧ ix q9 (σ.1 904 0)) ∧ (True) ∧ (True) then (if ¬ ((m_runs0 (tn p9) (tn q9) 0 (m_g (ix p9 (σ.1 924 0) ∧ ix q9 (σ.1 904 0)) (True) (True) σ)).1) = 0 then ((-1), (m_runs0 (tn p9) (tn q9) 0 (m_g (ix p9 (σ.1 924 0) ∧ ix q9 (σ.1 904 0)) (True) (True) σ)).2) else (nI ((((((m_runs0 (tn p9) (tn q9) 0 (m_g (ix p9 (σ.1 924 0) ∧ ix q9 (σ.1 904 0)) (True) (True) σ)).2).2.2.1 936 0 0) + (((m_runs0 (tn p9) (tn q9) 0 (m_g (ix p9 (σ.1 924 0) ∧ ix q9 (σ.1 904 0)) (True) (True) σ)).2).2.2.1 936 0 1)) + (((m_runs0 (tn p9) (tn q9) 0 (m_g (ix p9 (σ.1 924 0) ∧ ix q9 (σ.1 904 0)) (True) (True) σ)).2).2.2.1 936 0 2)) + (((m_runs0 (tn p9) (tn q9) 0 (m_g (ix p9 (σ.1 924 0) ∧ ix q9 (σ.1 904 0)) (True) (True) σ)).2).2.2.1 936 0 3)), (m_runs0 (tn p9) (tn q9) 0 (m_g (ix p9 (σ.1 924 0) ∧ ix q9 (σ.1 904 0)) (True) (True) σ)).2)) else (nI 0, (m_g (ix p9 (σ.1 924 0) ∧ ix q9 (σ.1 904 0)) (True) (True) σ))
def m_plan (p9 q9 : Int32) (σ : St) : Int32 × St := if ¬ (ix p9 (σ.1 924 0) ∧ ix q9 (σ.1 904 0)) then (nI 0, (m_g (ix p9 (σ.1 924 0) ∧ ix q9 (σ.1 904 0)) (False) (True) σ)) else (if ¬ (σ.2.2.2 920 0 (tn p9)) = 0 then (nI 0, (m_g (ix p9 (σ.1 924 0) ∧ ix q9 (σ.1 904 0)) (False) (True) σ)) else (if ¬ ((m_runs0 (tn p9) (tn q9) 0 σ).1) = 0 then (nI 0, (m_g (ix p9 (σ.1 924 0) ∧ ix q9 (σ.1 904 0)) (False) (True) (m_runs0 (tn p9) (tn q9) 0 σ).2)) else (if (ix p9 (σ.1 924 0) ∧ ix q9 (σ.1 904 0)) ∧ (True) ∧ (True) then (nI ((σ.1 926 0) + 1), (wN (wA (wA (wB (m_g (ix p9 (σ.1 924 0) ∧ ix q9 (σ.1 904 0)) (True) (True) (m_runs0 (tn p9) (tn q9) 0 σ).2) 920 0 (tn p9) (nI 1)) 921 0 (tn p9) (tn q9)) 925 0 (σ.1 926 0) (tn p9)) 926 0 ((σ.1 926 0) + 1))) else (nI 0, (m_g (ix p9 (σ.1 924 0) ∧ ix q9 (σ.1 904 0)) (True) (True) (m_runs0 (tn p9) (tn q9) 0 σ).2)))))
/-- the k-th of the queue, run on without tools -/
def rq0 (k : Nat) (σ : St) : Int32 × St := m_runs0 (σ.2.2.1 925 0 k) (σ.2.2.1 921 0 (σ.2.2.1 925 0 k)) (σ.2.2.1 922 0 (σ.2.2.1 925 0 k)) σ
/-- over the queue: what its programs still cut of a kind -/
def m_lk (i9 : Int32) : Nat → St → Int32 × St
  | 0, σ => (nI 0, σ)
  | k + 1, σ => ((m_lk i9 k σ).1 + (if ¬ (rq0 k (m_lk i9 k σ).2).1 = 0 then nI 0 else nI ((rq0 k (m_lk i9 k σ).2).2.2.2.1 936 0 (tn i9))), (rq0 k (m_lk i9 k σ).2).2)
/-- what a queue needs -/
def QI (σ : St) : Prop := σ.1 926 0 ≤ 6 ∧ ∀ k, k < σ.1 926 0 → σ.2.2.1 925 0 k < 6 ∧ σ.2.2.1 921 0 (σ.2.2.1 925 0 k) < σ.1 904 0 ∧ σ.2.2.1 922 0 (σ.2.2.1 925 0 k) < 100000
theorem QI.fr {lN lI lA lB : List Nat} {σ σ' : St} (h : QI σ) (f : FRm lN lI lA lB σ σ') (h1 : 926 ∉ lN := by decide) (h2 : 904 ∉ lN := by decide) (h3 : 925 ∉ lA := by decide) (h4 : 921 ∉ lA := by decide) (h5 : 922 ∉ lA := by decide) : QI σ' := by
  unfold QI at h ⊢
  rw [f.1 926 h1, f.1 904 h2, f.2.2.1 925 h3, f.2.2.1 921 h4, f.2.2.1 922 h5]
  exact h
theorem lk_all {i9 : Int32} : ∀ (k : Nat) (σ : St), SI σ → PI σ → QI σ → k ≤ σ.1 926 0 → FR0 σ (m_lk i9 k σ).2 ∧ SI (m_lk i9 k σ).2 ∧ PI (m_lk i9 k σ).2
  | 0, σ, hs, hP, _, _ => ⟨FRm.rf, hs, hP⟩
  | k + 1, σ, hs, hP, hQ, hk => by
    have h := lk_all (i9 := i9) k σ hs hP hQ (by omega)
    have hq := (hQ.fr h.1).2 k (by rw [h.1.1 926 (by decide)]; omega)
    have h2 := runs_all0 (p := (m_lk i9 k σ).2.2.2.1 925 0 k) (fr := (m_lk i9 k σ).2.2.2.1 922 0 ((m_lk i9 k σ).2.2.2.1 925 0 k)) h.2.1 h.2.2 hq.2.1
    exact ⟨h.1.tr (FR_runs0 _ _ _ _), h2.1, PI_runs0 h.2.2⟩
/-- less what is left of the tools of the kind -/
def m_ll (i9 v : Int32) (σ : St) : Nat → Int32
  | 0 => v
  | k + 1 => m_ll i9 v σ k - (if σ.2.2.2 911 0 k = 0 then nI 0 else if ¬ σ.2.2.2 906 0 k = i9 then nI 0 else nI (σ.2.2.1 907 0 k) - nI (σ.2.2.1 908 0 k))
def m_pos (x : Int32) : Int32 := if 0 ≤ x then x else nI 0
theorem m_lk_p {i9 : Int32} {k : Nat} {σ σ9 : St} {v9 : Int32} (h : (v9, σ9) = m_lk i9 k σ) (c : ¬ (rq0 k σ9).1 = 0) : (v9 + nI 0, (rq0 k σ9).2) = m_lk i9 (k + 1) σ := by
  unfold m_lk
  rw [← h]
  show _ = (v9 + (if ¬ (rq0 k σ9).1 = 0 then nI 0 else nI ((rq0 k σ9).2.2.2.1 936 0 (tn i9))), (rq0 k σ9).2)
  rw [if_pos c]
theorem m_lk_n {i9 : Int32} {k : Nat} {σ σ9 : St} {v9 : Int32} (h : (v9, σ9) = m_lk i9 k σ) (c : (rq0 k σ9).1 = 0) : (v9 + nI ((rq0 k σ9).2.2.2.1 936 0 (tn i9)), (rq0 k σ9).2) = m_lk i9 (k + 1) σ := by
  unfold m_lk
  rw [← h]
  show _ = (v9 + (if ¬ (rq0 k σ9).1 = 0 then nI 0 else nI ((rq0 k σ9).2.2.2.1 936 0 (tn i9))), (rq0 k σ9).2)
  rw [if_neg (not_not_intro9 c)]
def m_lacks (i9 : Int32) (σ : St) : Int32 × St := if (ix i9 4) ∧ (True) ∧ (True) then (m_pos (m_ll i9 (m_lk i9 (σ.1 926 0) (m_g (ix i9 4) True True σ)).1 (m_lk i9 (σ.1 926 0) (m_g (ix i9 4) True True σ)).2 (σ.1 914 0)), (m_lk i9 (σ.1 926 0) (m_g (ix i9 4) True True σ)).2) else (nI 0, m_g (ix i9 4) True True σ)
end P17
section P18
/-- the k-th of the queue, run on with the spare tools -/
def rq1 (k : Nat) (σ : St) : Int32 × St := m_runs1 (σ.2.2.1 925 0 k) (σ.2.2.1 921 0 (σ.2.2.1 925 0 k)) (σ.2.2.1 922 0 (σ.2.2.1 925 0 k)) σ
def m_sp : Nat → St → St
  | 0, σ => σ
  | n + 1, σ => wA (m_sp n σ) 909 0 n (σ.2.2.1 908 0 n)
theorem m_sp_N (σ : St) : ∀ n, (m_sp n σ).1 = σ.1
  | 0 => rfl
  | n + 1 => m_sp_N σ n
theorem m_sp_A (σ : St) (F : Nat) (h : F ≠ 909) : ∀ n, (m_sp n σ).2.2.1 F = σ.2.2.1 F
  | 0 => rfl
  | n + 1 => (show (wA (m_sp n σ) 909 0 n (σ.2.2.1 908 0 n)).2.2.1 F = (m_sp n σ).2.2.1 F from if_neg h).trans (m_sp_A σ F h n)
theorem m_sp_all {σ : St} (hs : SI σ) : ∀ n, SI (m_sp n σ) ∧ FR1 σ (m_sp n σ)
  | 0 => ⟨hs, FRm.rf⟩
  | n + 1 => ⟨SI_s (m_sp_all hs n).1 (hs.2.2.2.2.2.2.1 n), FRm.A (m_sp_all hs n).2 (by decide)⟩
def m_fs (q : Nat) : Nat → Nat → St → Nat × St
  | 0, n, σ => (n, σ)
  | f + 1, n, σ => if (rq1 n σ).1 = 0 then m_fs q f (n + 1) (rq1 n σ).2 else (n, (rq1 n σ).2)
theorem m_fs_y {q f n : Nat} {σ : St} (c : (rq1 n σ).1 = 0) : m_fs q (f + 1) n σ = m_fs q f (n + 1) (rq1 n σ).2 := if_pos c
theorem m_fs_n {q f n : Nat} {σ : St} (c : ¬ (rq1 n σ).1 = 0) : m_fs q (f + 1) n σ = (n, (rq1 n σ).2) := if_neg c
def m_foresees (σ : St) : Int32 × St := (nI (m_fs (σ.1 926 0) (σ.1 926 0) 0 (m_sp 16 (wI σ 944 0 (nI 0)))).1, (m_fs (σ.1 926 0) (σ.1 926 0) 0 (m_sp 16 (wI σ 944 0 (nI 0)))).2)
def m_bk (P : Nat) : Nat → St → St
  | 0, σ => σ
  | n + 1, σ => wB (m_bk P n σ) 915 0 (144 * P + n) ((m_bk P n σ).2.2.2 935 0 n)
def m_shf : Nat → St → St
  | 0, σ => σ
  | n + 1, σ => wA (m_shf n σ) 925 0 n ((m_shf n σ).2.2.1 925 0 (n + 1))
theorem m_bk_N (P : Nat) (σ : St) : ∀ n, (m_bk P n σ).1 = σ.1
  | 0 => rfl
  | n + 1 => m_bk_N P σ n
theorem m_bk_A (P : Nat) (σ : St) : ∀ n, (m_bk P n σ).2.2.1 = σ.2.2.1
  | 0 => rfl
  | n + 1 => m_bk_A P σ n
theorem m_bk_fr (P : Nat) (σ : St) {lN lI lA lB : List Nat} (h : 915 ∈ lB) : ∀ n, FRm lN lI lA lB σ (m_bk P n σ)
  | 0 => FRm.rf
  | n + 1 => FRm.B (m_bk_fr P σ h n) h
theorem m_shf_N (σ : St) : ∀ n, (m_shf n σ).1 = σ.1
  | 0 => rfl
  | n + 1 => m_shf_N σ n
theorem m_shf_fr (σ : St) {lN lI lA lB : List Nat} (h : 925 ∈ lA) : ∀ n, FRm lN lI lA lB σ (m_shf n σ)
  | 0 => FRm.rf
  | n + 1 => FRm.A (m_shf_fr σ h n) h
theorem m_shf_q (σ : St) : ∀ (n k : Nat), (m_shf n σ).2.2.1 925 0 k = if k < n then σ.2.2.1 925 0 (k + 1) else σ.2.2.1 925 0 k
  | 0, k => by rw [if_neg (Nat.not_lt_zero _)]; rfl
  | n + 1, k => by
    have h := m_shf_q σ n
    show (wA (m_shf n σ) 925 0 n ((m_shf n σ).2.2.1 925 0 (n + 1))).2.2.1 925 0 k = _
    rw [wA_s]
    by_cases e : k = n
    · subst e
      rw [up1_s, h, if_neg (by omega), if_pos (by omega)]
    · rw [up1_n e, h]
      by_cases e2 : k < n
      · rw [if_pos e2, if_pos (by omega)]
      · rw [if_neg e2, if_neg (by omega)]
def m_n1 (σ : St) : Int32 × St := ((m_runs2 (σ.2.2.1 925 0 0) (σ.2.2.1 921 0 (σ.2.2.1 925 0 0)) (σ.2.2.1 922 0 (σ.2.2.1 925 0 0)) σ).1, m_bk (σ.2.2.1 925 0 0) 144 (wA (m_runs2 (σ.2.2.1 925 0 0) (σ.2.2.1 921 0 (σ.2.2.1 925 0 0)) (σ.2.2.1 922 0 (σ.2.2.1 925 0 0)) σ).2 922 0 (σ.2.2.1 925 0 0) ((m_runs2 (σ.2.2.1 925 0 0) (σ.2.2.1 921 0 (σ.2.2.1 925 0 0)) (σ.2.2.1 922 0 (σ.2.2.1 925 0 0)) σ).2.1 943 0)))
def m_n2 (P Q : Nat) (σ : St) : St := m_shf (Q - 1) (wN (wB σ 920 0 P (nI 2)) 926 0 (Q - 1))
def m_ngl : Nat → Nat → St → Nat × St
  | 0, n, σ => (n, σ)
  | f + 1, n, σ => if (m_n1 σ).1 = 0 then (if σ.1 926 0 - 1 = 0 then (n + 1, m_n2 (σ.2.2.1 925 0 0) (σ.1 926 0) (m_n1 σ).2) else m_ngl f (n + 1) (m_n2 (σ.2.2.1 925 0 0) (σ.1 926 0) (m_n1 σ).2)) else (n, (m_n1 σ).2)
theorem ngl_y {f n : Nat} {σ : St} (c : (m_n1 σ).1 = 0) : m_ngl (f + 1) n σ = (if (if σ.1 926 0 - 1 = 0 then 0 else 1) = 0 then (n + 1, m_n2 (σ.2.2.1 925 0 0) (σ.1 926 0) (m_n1 σ).2) else m_ngl f (n + 1) (m_n2 (σ.2.2.1 925 0 0) (σ.1 926 0) (m_n1 σ).2)) := by
  unfold m_ngl
  rw [if_pos c]
  by_cases e : σ.1 926 0 - 1 = 0
  · rw [if_pos e, if_pos e, if_pos rfl]
  · rw [if_neg e, if_neg e, if_neg (by decide)]
    cases f <;> rfl
theorem ngl_n {f n : Nat} {σ : St} (c : ¬ (m_n1 σ).1 = 0) : m_ngl (f + 1) n σ = (n, (m_n1 σ).2) := if_neg c
def m_night (σ : St) : Int32 × St := (nI (if (if σ.1 926 0 = 0 then 0 else 1) = 0 then (0, wI σ 944 0 (nI 0)) else m_ngl 6 0 (wI σ 944 0 (nI 0))).1, (if (if σ.1 926 0 = 0 then 0 else 1) = 0 then (0, wI σ 944 0 (nI 0)) else m_ngl 6 0 (wI σ 944 0 (nI 0))).2)
theorem n1_all {σ : St} (hs : SI σ) (hP : PI σ) (hQ : QI σ) (h0 : 0 < σ.1 926 0) : SI (m_n1 σ).2 ∧ PI (m_n1 σ).2 ∧ QI (m_n1 σ).2 ∧ (m_n1 σ).2.1 926 = σ.1 926 ∧ (m_n1 σ).2.2.2.1 925 = σ.2.2.1 925 := by
  have hq := hQ.2 0 h0
  have h1 := runs_all2 (p := σ.2.2.1 925 0 0) (fr := σ.2.2.1 922 0 (σ.2.2.1 925 0 0)) hs hP hq.2.1
  have h2 := PI_runs2 (p := σ.2.2.1 925 0 0) (pr := σ.2.2.1 921 0 (σ.2.2.1 925 0 0)) (fr := σ.2.2.1 922 0 (σ.2.2.1 925 0 0)) hP
  have h3 := FR_runs2 (σ.2.2.1 925 0 0) (σ.2.2.1 921 0 (σ.2.2.1 925 0 0)) (σ.2.2.1 922 0 (σ.2.2.1 925 0 0)) σ
  unfold m_n1
  show SI (m_bk _ 144 _) ∧ PI (m_bk _ 144 _) ∧ QI (m_bk _ 144 _) ∧ (m_bk _ 144 _).1 926 = _ ∧ (m_bk _ 144 _).2.2.1 925 = _
  generalize (m_runs2 (σ.2.2.1 925 0 0) (σ.2.2.1 921 0 (σ.2.2.1 925 0 0)) (σ.2.2.1 922 0 (σ.2.2.1 925 0 0)) σ).2 = X at h1 h2 h3 ⊢
  have f1 : FRm [] [] [922] [915] X (m_bk (σ.2.2.1 925 0 0) 144 (wA X 922 0 (σ.2.2.1 925 0 0) (X.1 943 0))) := (FRm.A FRm.rf (by decide)).tr (m_bk_fr _ _ (by decide) 144)
  have f2 : (m_bk (σ.2.2.1 925 0 0) 144 (wA X 922 0 (σ.2.2.1 925 0 0) (X.1 943 0))).2.2.1 922 0 = up1 (X.2.2.1 922 0) (σ.2.2.1 925 0 0) (X.1 943 0) := by rw [m_bk_A, wA_s]
  generalize m_bk (σ.2.2.1 925 0 0) 144 (wA X 922 0 (σ.2.2.1 925 0 0) (X.1 943 0)) = Y at f1 f2 ⊢
  refine ⟨SI_w h1.1 (by rw [f1.2.2.1 937 (by decide)]) (by rw [f1.2.1 942 (by decide)]) (by rw [f1.1 914 (by decide)]) (by rw [f1.2.2.1 907 (by decide)]) (by rw [f1.2.2.1 908 (by decide)]; exact h1.1.2.2.2.2.2.2.1) (by rw [f1.2.2.1 909 (by decide)]; exact h1.1.2.2.2.2.2.2.2.1) (by rw [f1.1 901 (by decide)]; exact h1.1.2.2.2.2.2.2.2.2), ?_, ?_, ?_, ?_⟩
  · unfold PI at h2 ⊢
    rw [f1.1 904 (by decide), f1.2.2.1 903 (by decide), f1.2.2.2 902 (by decide)]
    exact h2
  · have hQX := hQ.fr h3
    unfold QI at hQX ⊢
    rw [f1.1 926 (by decide), f1.1 904 (by decide), f1.2.2.1 925 (by decide), f1.2.2.1 921 (by decide)]
    refine ⟨hQX.1, fun k hk => ⟨(hQX.2 k hk).1, (hQX.2 k hk).2.1, ?_⟩⟩
    rw [f2]
    unfold up1
    split
    · omega
    · exact (hQX.2 k hk).2.2
  · rw [f1.1 926 (by decide), h3.1 926 (by decide)]
  · rw [f1.2.2.1 925 (by decide), h3.2.2.1 925 (by decide)]
theorem n2_all {P Q : Nat} {σ : St} (hs : SI σ) (hP : PI σ) (hQ : QI σ) (e : σ.1 926 0 = Q) : SI (m_n2 P Q σ) ∧ PI (m_n2 P Q σ) ∧ QI (m_n2 P Q σ) ∧ (m_n2 P Q σ).1 926 0 = Q - 1 := by
  have f1 : FRm [926] [] [925] [920] σ (m_n2 P Q σ) := (FRm.N (FRm.B FRm.rf (by decide)) (by decide)).tr (m_shf_fr _ (by decide) _)
  have f2 : (m_n2 P Q σ).1 926 0 = Q - 1 := by
    unfold m_n2
    rw [m_shf_N]
    rfl
  have f3 : ∀ k, (m_n2 P Q σ).2.2.1 925 0 k = if k < Q - 1 then σ.2.2.1 925 0 (k + 1) else σ.2.2.1 925 0 k := fun k => by
    unfold m_n2
    rw [m_shf_q]
    rfl
  generalize m_n2 P Q σ = Y at f1 f2 f3 ⊢
  refine ⟨SI_w hs (by rw [f1.2.2.1 937 (by decide)]) (by rw [f1.2.1 942 (by decide)]) (by rw [f1.1 914 (by decide)]) (by rw [f1.2.2.1 907 (by decide)]) (by rw [f1.2.2.1 908 (by decide)]; exact hs.2.2.2.2.2.2.1) (by rw [f1.2.2.1 909 (by decide)]; exact hs.2.2.2.2.2.2.2.1) (by rw [f1.1 901 (by decide)]; exact hs.2.2.2.2.2.2.2.2), ?_, ?_, f2⟩
  · unfold PI at hP ⊢
    rw [f1.1 904 (by decide), f1.2.2.1 903 (by decide), f1.2.2.2 902 (by decide)]
    exact hP
  · unfold QI at hQ ⊢
    rw [f2, f1.1 904 (by decide), f1.2.2.1 921 (by decide), f1.2.2.1 922 (by decide)]
    refine ⟨by omega, fun k hk => ?_⟩
    rw [f3, if_pos hk]
    exact hQ.2 (k + 1) (by omega)
theorem n1_f (σ9 : St) : (m_n1 σ9).1 = (m_runs2 (σ9.2.2.1 925 0 0) (σ9.2.2.1 921 0 (σ9.2.2.1 925 0 0)) (σ9.2.2.1 922 0 (σ9.2.2.1 925 0 0)) σ9).1 := by
  unfold m_n1
  rfl
theorem n1_s (σ9 : St) : (m_n1 σ9).2 = m_bk (σ9.2.2.1 925 0 0) 144 (wA (m_runs2 (σ9.2.2.1 925 0 0) (σ9.2.2.1 921 0 (σ9.2.2.1 925 0 0)) (σ9.2.2.1 922 0 (σ9.2.2.1 925 0 0)) σ9).2 922 0 (σ9.2.2.1 925 0 0) ((m_runs2 (σ9.2.2.1 925 0 0) (σ9.2.2.1 921 0 (σ9.2.2.1 925 0 0)) (σ9.2.2.1 922 0 (σ9.2.2.1 925 0 0)) σ9).2.1 943 0)) := by
  unfold m_n1
  rfl
theorem n2_s (P Q : Nat) (σ : St) : m_n2 P Q σ = m_shf (Q - 1) (wN (wB σ 920 0 P (nI 2)) 926 0 (Q - 1)) := rfl
end P18
section P19
/-- the paper's first entries -/
def m_jx (p9 d9 g9 : Int32) (σ : St) : St := (wB (wB (wB (wB (wB (m_g (ix p9 (σ.1 924 0) ∧ (ix d9 (σ.1 932 0) ∧ ix g9 4)) ((ix p9 (σ.1 924 0) ∧ (ix d9 (σ.1 932 0) ∧ ix g9 4)) ∧ σ.2.2.2 920 0 (tn p9) = nI 2 ∧ 0 < σ.2.2.1 931 0 (tn d9) ∧ ¬ σ.2.2.2 928 0 (tn g9) = 0 ∧ σ.1 900 0 < σ.2.2.1 927 0 (tn g9) + 1000 ∧ σ.1 934 0 < 30) (True) σ) 933 0 (18 * (σ.1 934 0)) p9) 933 0 ((18 * (σ.1 934 0)) + 1) d9) 933 0 ((18 * (σ.1 934 0)) + 3) (nI (σ.1 900 0))) 933 0 ((18 * (σ.1 934 0)) + 4) (σ.2.2.2 929 0 (tn g9))) 933 0 ((18 * (σ.1 934 0)) + 17) (nI (σ.2.2.1 931 0 (tn d9))))
theorem jx_N (p9 d9 g9 : Int32) (σ : St) : (m_jx p9 d9 g9 σ).1 = σ.1 := rfl
theorem jx_A (p9 d9 g9 : Int32) (σ : St) : (m_jx p9 d9 g9 σ).2.2.1 = σ.2.2.1 := rfl
theorem jx_B (F : Nat) (h : F ≠ 933) (p9 d9 g9 : Int32) (σ : St) : (m_jx p9 d9 g9 σ).2.2.2 F = σ.2.2.2 F := by
  have f : FRm [] [944] [] [933] σ (m_jx p9 d9 g9 σ) := by
    unfold m_jx m_g
    repeat' first | exact FRm.rf | refine FRm.I ?_ (by decide) | refine FRm.B ?_ (by decide)
  exact f.2.2.2 F (by simpa using h)
theorem jx_17 (p9 d9 g9 : Int32) (σ : St) : (m_jx p9 d9 g9 σ).2.2.2 933 0 (18 * σ.1 934 0 + 17) = nI (σ.2.2.1 931 0 (tn d9)) := by
  unfold m_jx
  rw [wB_s, up1_s]
def m_jst (P D G M k : Nat) (σ : St) : St := if (σ.2.2.2 917 0 (((144 * (P)) + (12 * (σ.2.2.1 930 0 ((6 * ((6 * (D)) + k)) + 1)))) + (σ.2.2.1 930 0 (6 * ((6 * (D)) + k))))) = (-1) then (wA (wB (wB σ 933 0 (((18 * (M)) + 5) + k) (((msz (((144 * (P)) + (12 * (σ.2.2.1 930 0 ((6 * ((6 * (D)) + k)) + 1)))) + (σ.2.2.1 930 0 (6 * ((6 * (D)) + k)))) σ) + (((nI (σ.1 900 0)) - (nI (σ.2.2.1 927 0 (G)))) / (nI 100))) - (nI (1000 * (σ.2.2.1 930 0 ((6 * ((6 * (D)) + k)) + 2)))))) 933 0 (((18 * (M)) + 11) + k) (nI ((σ.2.2.1 930 0 ((6 * ((6 * (D)) + k)) + 3)) + (if σ.2.2.1 930 0 (6 * (6 * D + k) + 5) = 0 then 0 else σ.2.2.1 930 0 (6 * (6 * D + k) + 4))))) 930 0 ((6 * ((6 * (D)) + k)) + 5) ((σ.2.2.1 930 0 ((6 * ((6 * (D)) + k)) + 5)) - (if σ.2.2.1 930 0 (6 * (6 * D + k) + 5) = 0 then 0 else 1))) else (m_tells (tn (σ.2.2.2 917 0 ((144 * (P)) + (12 * (σ.2.2.1 930 0 ((6 * (6 * D + k)) + 1))) + (σ.2.2.1 930 0 (6 * (6 * D + k)))))) (((msz (((144 * (P)) + (12 * (σ.2.2.1 930 0 ((6 * ((6 * (D)) + k)) + 1)))) + (σ.2.2.1 930 0 (6 * ((6 * (D)) + k)))) σ) + (((nI (σ.1 900 0)) - (nI (σ.2.2.1 927 0 (G)))) / (nI 100))) - (nI (1000 * (σ.2.2.1 930 0 ((6 * ((6 * (D)) + k)) + 2))))) (wA (wB (wB σ 933 0 (((18 * (M)) + 5) + k) (((msz (((144 * (P)) + (12 * (σ.2.2.1 930 0 ((6 * ((6 * (D)) + k)) + 1)))) + (σ.2.2.1 930 0 (6 * ((6 * (D)) + k)))) σ) + (((nI (σ.1 900 0)) - (nI (σ.2.2.1 927 0 (G)))) / (nI 100))) - (nI (1000 * (σ.2.2.1 930 0 ((6 * ((6 * (D)) + k)) + 2)))))) 933 0 (((18 * (M)) + 11) + k) (nI ((σ.2.2.1 930 0 ((6 * ((6 * (D)) + k)) + 3)) + (if σ.2.2.1 930 0 (6 * (6 * D + k) + 5) = 0 then 0 else σ.2.2.1 930 0 (6 * (6 * D + k) + 4))))) 930 0 ((6 * ((6 * (D)) + k)) + 5) ((σ.2.2.1 930 0 ((6 * ((6 * (D)) + k)) + 5)) - (if σ.2.2.1 930 0 (6 * (6 * D + k) + 5) = 0 then 0 else 1))))
def m_jl (P D G M : Nat) : Nat → St → St
  | 0, σ => σ
  | k + 1, σ => m_jst P D G M k (m_jl P D G M k σ)
theorem jst_fr (P D G M k : Nat) (σ : St) : FRm [] [] [930, 913] [933, 912] σ (m_jst P D G M k σ) := by
  unfold m_jst m_tells
  split
  all_goals (repeat' first | exact FRm.rf | refine FRm.A ?_ (by decide) | refine FRm.B ?_ (by decide))
theorem jst_a (P D G M k : Nat) (σ : St) : (m_jst P D G M k σ).2.2.1 930 0 = up1 (σ.2.2.1 930 0) (6 * (6 * D + k) + 5) (σ.2.2.1 930 0 (6 * (6 * D + k) + 5) - (if σ.2.2.1 930 0 (6 * (6 * D + k) + 5) = 0 then 0 else 1)) := by
  unfold m_jst m_tells
  split
  · rw [wA_s]; rfl
  · show (wA _ 930 0 _ _).2.2.1 930 0 = _
    rw [wA_s]; rfl
theorem jst_q (P D G M k : Nat) (σ : St) (hk : k < 6) : (m_jst P D G M k σ).2.2.2 933 0 (18 * M + 17) = σ.2.2.2 933 0 (18 * M + 17) := by
  have h : ∀ (X Y : Int32) (j1 j2 : Nat), ¬ 18 * M + 17 = j1 → ¬ 18 * M + 17 = j2 → (wB (wB σ 933 0 j1 X) 933 0 j2 Y).2.2.2 933 0 (18 * M + 17) = σ.2.2.2 933 0 (18 * M + 17) := fun X Y j1 j2 h1 h2 => by rw [wB_s, up1_n h2, wB_s, up1_n h1]
  unfold m_jst m_tells
  split
  · exact h _ _ _ _ (by omega) (by omega)
  · exact h _ _ _ _ (by omega) (by omega)
theorem jl_nx {P D G M k n : Nat} {σ X σ9 Y : St} {v : Int32} (hq : σ9 = m_jl P D G M k X) (hk : k ≤ n) (hfr : FRm [] [] [930, 913] [933, 912] X σ9) (hxa : ∀ i, ¬ i % 6 = 5 → σ9.2.2.1 930 0 i = σ.2.2.1 930 0 i) (hxl : ∀ i, σ9.2.2.1 930 0 i ≤ σ.2.2.1 930 0 i) (h17 : σ9.2.2.2 933 0 (18 * M + 17) = v) (h6 : n ≤ 6) (hkn : k < n) (hY : Y = m_jl P D G M (k + 1) X) :
    Y = m_jl P D G M (k + 1) X ∧ k + 1 ≤ n ∧ FRm [] [] [930, 913] [933, 912] X Y ∧ (∀ i, ¬ i % 6 = 5 → Y.2.2.1 930 0 i = σ.2.2.1 930 0 i) ∧ (∀ i, Y.2.2.1 930 0 i ≤ σ.2.2.1 930 0 i) ∧ Y.2.2.2 933 0 (18 * M + 17) = v := by
  have e : Y = m_jst P D G M k σ9 := by rw [hY, hq]; rfl
  refine ⟨hY, hkn, ?_, fun i hi => ?_, fun i => ?_, ?_⟩
  · rw [e]; exact hfr.tr (jst_fr _ _ _ _ _ _)
  · rw [e, jst_a, up1_n (by omega)]; exact hxa i hi
  · rw [e, jst_a]
    unfold up1
    split
    · rename_i z; subst z
      exact Nat.le_trans (Nat.sub_le _ _) (hxl _)
    · exact hxl i
  · rw [e, jst_q _ _ _ _ _ _ (by omega)]; exact h17
def m_judge (p9 d9 g9 : Int32) (σ : St) : Int32 × St := if (ix p9 (σ.1 924 0) ∧ (ix d9 (σ.1 932 0) ∧ ix g9 4)) ∧ ((ix p9 (σ.1 924 0) ∧ (ix d9 (σ.1 932 0) ∧ ix g9 4)) ∧ σ.2.2.2 920 0 (tn p9) = nI 2 ∧ 0 < σ.2.2.1 931 0 (tn d9) ∧ ¬ σ.2.2.2 928 0 (tn g9) = 0 ∧ σ.1 900 0 < σ.2.2.1 927 0 (tn g9) + 1000 ∧ σ.1 934 0 < 30) ∧ (True) then (nI (((σ.1 934 0) + 1) - 1), (wB (wB (wN (m_jl (tn p9) (tn d9) (tn g9) (σ.1 934 0) (σ.2.2.1 931 0 (tn d9)) (m_jx p9 d9 g9 σ)) 934 0 ((σ.1 934 0) + 1)) 933 0 ((18 * (σ.1 934 0)) + 2) (vdl (vdf (σ.1 934 0) (wN (m_jl (tn p9) (tn d9) (tn g9) (σ.1 934 0) (σ.2.2.1 931 0 (tn d9)) (m_jx p9 d9 g9 σ)) 934 0 ((σ.1 934 0) + 1))) (σ.2.2.1 931 0 (tn d9)))) 923 0 (tn p9) (vdl (vdf (σ.1 934 0) (wN (m_jl (tn p9) (tn d9) (tn g9) (σ.1 934 0) (σ.2.2.1 931 0 (tn d9)) (m_jx p9 d9 g9 σ)) 934 0 ((σ.1 934 0) + 1))) (σ.2.2.1 931 0 (tn d9))))) else (nI 0, (m_g (ix p9 (σ.1 924 0) ∧ (ix d9 (σ.1 932 0) ∧ ix g9 4)) ((ix p9 (σ.1 924 0) ∧ (ix d9 (σ.1 932 0) ∧ ix g9 4)) ∧ σ.2.2.2 920 0 (tn p9) = nI 2 ∧ 0 < σ.2.2.1 931 0 (tn d9) ∧ ¬ σ.2.2.2 928 0 (tn g9) = 0 ∧ σ.1 900 0 < σ.2.2.1 927 0 (tn g9) + 1000 ∧ σ.1 934 0 < 30) (True) σ))
end P19
