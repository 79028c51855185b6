/-! a step of the law's beside one of the reference's, in its three ways -/
theorem nlt {a b : Nat} (ha : a < 2 ^ 31) (hb : b < 2 ^ 31) : nI a < nI b ↔ a < b := nI_ltI ha hb
theorem htf_tff {f l9 kd : Nat → Int32} {u lv : Nat → Nat} {its : Int32} (h : ∀ k, k < 4 → f (9 * k) = kd k ∧ f (9 * k + 1) = nI (lv k) ∧ f (9 * k + 2) = nI (u k) ∧ f (9 * k + 4) = l9 k ∧ (l9 k = 0 ∨ l9 k = 1) ∧ lv k ≤ 500 ∧ u k ≤ 500) : ∀ (n k : Nat), n + k ≤ 4 → htf f its n k = tff l9 kd u lv its n k
  | 0, _, _ => rfl
  | n + 1, k, hk => by
    obtain ⟨h1, h2, h3, h4, h5, h6, h7⟩ := h k (by omega)
    have e1 : (f (9 * k) = its ∧ f (9 * k + 4) = nI 1 ∧ ¬ f (9 * k + 1) ≤ f (9 * k + 2)) ↔ (¬ l9 k = 0 ∧ kd k = its ∧ u k < lv k) := by
      rw [h1, h2, h3, h4, nI_leI (by omega) (by omega)]
      constructor
      · rintro ⟨a, b, c⟩
        exact ⟨fun z => by rw [z] at b; exact absurd b (by decide), a, by omega⟩
      · rintro ⟨a, b, c⟩
        exact ⟨b, h5.resolve_left a, by omega⟩
    unfold htf tff
    by_cases c : f (9 * k) = its ∧ f (9 * k + 4) = nI 1 ∧ ¬ f (9 * k + 1) ≤ f (9 * k + 2)
    · rw [if_pos c, if_pos (e1.mp c)]
    · rw [if_neg c, if_neg (fun z => c (e1.mpr z))]
      exact htf_tff h n (k + 1) (by omega)
theorem htf_m1 {f : Nat → Int32} {its : Int32} : ∀ (n k : Nat), n + k ≤ 4 → htf f its n k = (-1) ∨ 0 ≤ htf f its n k
  | 0, _, _ => Or.inl rfl
  | n + 1, k, hk => by
    unfold htf
    split
    · exact Or.inr (nI_pos' (by omega))
    · exact htf_m1 n (k + 1) (by omega)
/-- the heights and the clamps of a row -/
def QX0 (kr p : Nat) (ρ τ : St) : Prop := ∀ c, c < 48 → nI (ρ.2.2.1 900 kr c % 16) = τ.2.2.2 935 0 c ∧ nI (ρ.2.2.1 900 kr c / 17592186044416 % 16) = τ.2.2.2 916 0 (144 * p + c)
theorem EqV.B {τ τ' : St} (h : EqV τ τ') : τ'.2.2.2 = τ.2.2.2 := h.2.2.2.symm
theorem EqV.A {τ τ' : St} (h : EqV τ τ') {F : Nat} (h1 : F ≠ 937) (h2 : F ≠ 938) (h3 : F ≠ 939) : τ'.2.2.1 F = τ.2.2.1 F := (h.2.2.1 F h1 h2 h3).symm
theorem xi_0 (kr p : Nat) : XI9 (QX0 kr p) := ⟨fun ρ τ i v h => h, fun ρ τ τ' h e => by unfold QX0 at h ⊢; rw [e.B]; exact h⟩
/-- the tools, by the row V of the minutes used -/
def RTu (ku V : Nat) (ρ τ : St) : Prop := τ.1 914 0 = 4 ∧ ∀ k, k < 4 → ρ.2.2.2 902 ku (9 * k) = τ.2.2.2 906 0 k ∧ ρ.2.2.2 902 ku (9 * k + 1) = nI (τ.2.2.1 907 0 k) ∧ ρ.2.2.2 902 ku (9 * k + 2) = nI (τ.2.2.1 V 0 k) ∧ ρ.2.2.2 902 ku (9 * k + 4) = τ.2.2.2 911 0 k ∧ (τ.2.2.2 911 0 k = 0 ∨ τ.2.2.2 911 0 k = 1) ∧ τ.2.2.1 907 0 k ≤ 500 ∧ τ.2.2.1 V 0 k ≤ 500
theorem rt_tf {ku V : Nat} {ρ τ : St} (h : RTu ku V ρ τ) (its : Int32) : htf (ρ.2.2.2 902 ku) its 4 0 = m_tf V its τ := by
  unfold m_tf
  rw [h.1]
  exact htf_tff h.2 4 0 (by decide)
theorem RTu.v {ku V : Nat} {ρ τ τ' : St} (h : RTu ku V ρ τ) (hV : V = 908 ∨ V = 909) (e : EqV τ τ') : RTu ku V ρ τ' := by
  unfold RTu at h ⊢
  rw [e.B, e.A (F := 907) (by decide) (by decide) (by decide), e.A (F := V) (by omega) (by omega) (by omega), ← e.1]
  exact h
theorem wB_o {σ : St} {F k i F' : Nat} {v : Int32} (h : F' ≠ F) : (wB σ F k i v).2.2.2 F' = σ.2.2.2 F' := if_neg h
theorem wA_o {σ : St} {F k i F' v : Nat} (h : F' ≠ F) : (wA σ F k i v).2.2.1 F' = σ.2.2.1 F' := if_neg h
theorem wN_o {σ : St} {F k F' v : Nat} (h : F' ≠ F) : (wN σ F k v).1 F' = σ.1 F' := if_neg h
theorem wA_3 {σ : St} {F k i v : Nat} : (wA σ F k i v).2.2.1 F k = up1 (σ.2.2.1 F k) i v := up3_s
theorem wB_3 {σ : St} {F k i : Nat} {v : Int32} : (wB σ F k i v).2.2.2 F k = up1 (σ.2.2.2 F k) i v := up3_s
/-- a step that only counts -/
theorem RW_6 {ρ τ : St} (h : RW ρ τ) (h6 : ix (ρ.2.2.2 904 0 6) 99999) : RW (wB ρ 904 0 6 (nI (tn (ρ.2.2.2 904 0 6) + 1))) (wN τ 943 0 (τ.1 943 0 + 1)) := by
  have b6 := ix_lt h6
  obtain ⟨h1, h2, h3, h4, h5, h7, h8⟩ := h
  refine ⟨fun b hb => ?_, ?_, ?_, ?_, ?_, fun k hk => ?_, ?_⟩
  · rw [e_ne (by omega)]; exact h1 b hb
  · rw [e_ne (by omega)]; exact h2
  · rw [e_ne (by omega)]; exact h3
  · rw [e_ne (by omega)]; exact h4
  · rw [wB_s, up1_s, tn_nI (by omega), ← h5]
    exact (show up2 τ.1 943 0 (τ.1 943 0 + 1) 943 0 = τ.1 943 0 + 1 from up2_s)
  · rw [e_ne (by omega)]; exact h7 k hk
  · rw [e_ne (by omega)]; exact h8
/-- a cut, in what the run's row tells -/
theorem RW_cut {ρ τ X Y : St} {j : Nat} (h : RW ρ τ) (h6 : ix (ρ.2.2.2 904 0 6) 99999) (hj : j < 4) (hX : X.2.2.2 904 = (wB ρ 904 0 (8 + j) (ρ.2.2.2 904 0 (8 + j) + nI 1)).2.2.2 904) (h937 : Y.2.2.1 937 = τ.2.2.1 937) (hI : Y.2.1 = τ.2.1) (h943 : Y.1 943 0 = τ.1 943 0) (h936 : Y.2.2.1 936 0 = up1 (τ.2.2.1 936 0) j (τ.2.2.1 936 0 j + 1)) : RW (wB X 904 0 6 (nI (tn (ρ.2.2.2 904 0 6) + 1))) (wN Y 943 0 (Y.1 943 0 + 1)) := by
  have b6 := ix_lt h6
  have eX : ∀ i, i < 8 → X.2.2.2 904 0 i = ρ.2.2.2 904 0 i := fun i hi => by rw [hX, e_ne (by omega)]
  obtain ⟨h1, h2, h3, h4, h5, h7, h8⟩ := h
  refine ⟨fun b hb => ?_, ?_, ?_, ?_, ?_, fun k hk => ?_, ?_⟩
  · rw [e_ne (by omega), eX b (by omega)]
    show Y.2.2.1 937 0 b = _
    rw [h937]; exact h1 b hb
  · rw [e_ne (by omega), eX 3 (by omega)]
    show _ = Y.2.1 940 0
    rw [hI]; exact h2
  · rw [e_ne (by omega), eX 4 (by omega)]
    show _ = Y.2.1 941 0
    rw [hI]; exact h3
  · rw [e_ne (by omega), eX 5 (by omega)]
    show _ = Y.2.1 942 0
    rw [hI]; exact h4
  · rw [wB_s, up1_s, tn_nI (by omega), ← h5, ← h943]
    exact (show up2 Y.1 943 0 (Y.1 943 0 + 1) 943 0 = Y.1 943 0 + 1 from up2_s)
  · rw [e_ne (by omega), hX, wB_s]
    show _ = nI (Y.2.2.1 936 0 k)
    rw [h936]
    unfold up1
    by_cases e : k = j
    · subst e
      rw [if_pos rfl, if_pos rfl, h7 k hk, nI_add]
    · rw [if_neg (by omega), if_neg e]; exact h7 k hk
  · rw [e_ne (by omega), eX 5 (by omega)]; exact h8
section STs9
variable {kr ku km fr p : Nat}
/-- both sides decide alike -/
theorem st_dec {t9 : Int32} {ρ τ : St} (hs : LI kr ku km ρ) (hw : RW ρ τ) (hx : QX0 kr p ρ τ) :
    (fr ≤ τ.1 943 0 ↔ ¬ tn (ρ.2.2.2 904 0 6) < fr) ∧ (nI (τ.2.2.1 937 0 2) < τ.2.2.2 916 0 (144 * p + ((12 * τ.2.2.1 937 0 1) + τ.2.2.1 937 0 0)) ↔ tn (ρ.2.2.2 904 0 2) < ρ.2.2.1 900 kr (12 * tn (ρ.2.2.2 904 0 1) + tn (ρ.2.2.2 904 0 0)) / 17592186044416 % 16) ∧ (nI (τ.2.2.1 937 0 2) < τ.2.2.2 935 0 (12 * τ.2.2.1 937 0 1 + τ.2.2.1 937 0 0) ↔ ¬ ρ.2.2.1 900 kr (12 * tn (ρ.2.2.2 904 0 1) + tn (ρ.2.2.2 904 0 0)) % 16 ≤ tn (ρ.2.2.2 904 0 2)) ∧ (¬ τ.2.1 942 0 = (-1) ↔ 0 ≤ ρ.2.2.2 904 0 5) ∧ 12 * tn (ρ.2.2.2 904 0 1) + tn (ρ.2.2.2 904 0 0) < 48 := by
  have b0 := ix_lt hs.2.2.1
  have b1 := ix_lt hs.2.2.2.1
  have b2 := ix_lt hs.2.2.2.2.1
  have hc : 12 * tn (ρ.2.2.2 904 0 1) + tn (ρ.2.2.2 904 0 0) < 48 := by omega
  have hC := hx _ hc
  rw [hw.1 0 (by decide), hw.1 1 (by decide), hw.1 2 (by decide), ← hC.1, ← hC.2, hw.2.2.2.2.1, nlt (by omega) (by omega), nlt (by omega) (by omega), ← hw.2.2.2.1]
  refine ⟨by omega, Iff.rfl, by omega, ?_, hc⟩
  rcases hw.2.2.2.2.2.2 with z | z
  · rw [z]; decide
  · exact ⟨fun _ => z, fun _ y => by rw [y] at z; exact absurd z (by decide)⟩
theorem QX0_cut {ρ τ X Y : St} {c z w : Nat} (hx : QX0 kr p ρ τ) (hc : c < 48) (hX : X.2.2.1 900 kr = up1 (ρ.2.2.1 900 kr) c w) (hw1 : w % 16 = z) (hw2 : w / 17592186044416 % 16 = ρ.2.2.1 900 kr c / 17592186044416 % 16) (h935 : Y.2.2.2 935 0 = up1 (τ.2.2.2 935 0) c (nI z)) (h916 : Y.2.2.2 916 = τ.2.2.2 916) : QX0 kr p X Y := fun i hi => by
  rw [hX, h935, h916]
  unfold up1
  by_cases e : i = c
  · subst e
    rw [if_pos rfl, if_pos rfl, hw1, hw2]
    exact ⟨rfl, (hx i hi).2⟩
  · rw [if_neg e, if_neg e]; exact hx i hi
theorem ss0 : SSim kr ku km fr 0 (QX0 kr p) (m_step0 p fr) := by
  intro ρ τ hs h6 hw hx
  obtain ⟨d1, d2, d3, d4, hc⟩ := st_dec (fr := fr) (t9 := 0) hs hw hx
  have hE5 := hs.2.2.2.2.2.1
  have hcc := hx _ hc
  unfold h_step m_step0
  by_cases c1 : tn (ρ.2.2.2 904 0 6) < fr
  · rw [if_pos c1, if_neg (fun z => d1.mp z c1)]
    exact ⟨(fx_n (k := 0) (by decide)).symm, RW_6 hw h6, hx⟩
  rw [if_neg c1, if_pos (d1.mpr c1)]
  by_cases c2 : tn (ρ.2.2.2 904 0 2) < ρ.2.2.1 900 kr (12 * tn (ρ.2.2.2 904 0 1) + tn (ρ.2.2.2 904 0 0)) / 17592186044416 % 16
  · rw [if_pos c2, if_pos (d2.mpr c2)]
    exact ⟨(fx_n (k := 3) (by decide)).symm, hw, hx⟩
  rw [if_neg c2, if_neg (fun z => c2 (d2.mp z))]
  by_cases c3 : ρ.2.2.1 900 kr (12 * tn (ρ.2.2.2 904 0 1) + tn (ρ.2.2.2 904 0 0)) % 16 ≤ tn (ρ.2.2.2 904 0 2)
  · rw [if_pos c3, if_pos (fun z => d3.mp z c3)]
    exact ⟨(fx_n (k := 0) (by decide)).symm, RW_6 hw h6, hx⟩
  rw [if_neg c3, if_neg (not_not_intro9 (d3.mpr c3)), ← hw.2.1]
  by_cases c4 : ρ.2.2.2 904 0 3 = 0
  · rw [if_pos c4, if_pos c4]
    exact ⟨(fx_n (k := 3) (by decide)).symm, hw, hx⟩
  rw [if_neg c4, if_neg c4]
  by_cases c5 : 0 ≤ ρ.2.2.2 904 0 5
  · rw [if_pos c5, if_pos (d4.mpr c5), if_pos rfl]
    have b5 := ix_lt (hE5 c5)
    have b2 := ix_lt hs.2.2.2.2.1
    refine ⟨(fx_n (k := 0) (by decide)).symm, RW_cut hw h6 b5 rfl rfl rfl rfl ?_, QX0_cut (c := 12 * tn (ρ.2.2.2 904 0 1) + tn (ρ.2.2.2 904 0 0)) (z := tn (ρ.2.2.2 904 0 2)) (w := ρ.2.2.1 900 kr (12 * tn (ρ.2.2.2 904 0 1) + tn (ρ.2.2.2 904 0 0)) / 16 * 16 + tn (ρ.2.2.2 904 0 2)) hx hc ?_ (by omega) (by omega) ?_ rfl⟩
    · rw [← hw.2.2.2.1]
      show up3 τ.2.2.1 936 0 (tn (ρ.2.2.2 904 0 5)) _ 936 0 = _
      rw [up3_s]
    · show up3 ρ.2.2.1 900 kr _ _ 900 kr = _
      rw [up3_s]
    · rw [← hw.1 0 (by decide), ← hw.1 1 (by decide), ← hw.1 2 (by decide)]
      show up3 τ.2.2.2 935 0 _ _ 935 0 = _
      rw [up3_s]
  · rw [if_neg c5, if_neg (fun z => c5 (d4.mp z))]
    exact ⟨(fx_n (k := 3) (by decide)).symm, hw, hx⟩
def QX1 (kr ku p : Nat) (ρ τ : St) : Prop := QX0 kr p ρ τ ∧ RTu ku 909 ρ τ
theorem xi_1 (kr ku p : Nat) : XI9 (QX1 kr ku p) := ⟨fun ρ τ i v h => h, fun ρ τ τ' h e => ⟨(xi_0 kr p).2 _ _ _ h.1 e, h.2.v (Or.inr rfl) e⟩⟩
/-- a tool that has cut once more -/
theorem RTu_cut {V T : Nat} {ρ τ X Y : St} (h : RTu ku V ρ τ) (hT : T < 4) (hlt : τ.2.2.1 V 0 T < τ.2.2.1 907 0 T) (hX : X.2.2.2 902 ku = up1 (ρ.2.2.2 902 ku) (9 * T + 2) (nI (τ.2.2.1 V 0 T + 1))) (hV : Y.2.2.1 V 0 = up1 (τ.2.2.1 V 0) T (τ.2.2.1 V 0 T + 1)) (h914 : Y.1 914 = τ.1 914) (h907 : Y.2.2.1 907 = τ.2.2.1 907) (h906 : Y.2.2.2 906 = τ.2.2.2 906) (h911 : Y.2.2.2 911 = τ.2.2.2 911) : RTu ku V X Y := by
  refine ⟨by rw [h914]; exact h.1, fun k hk => ?_⟩
  obtain ⟨a1, a2, a3, a4, a5, a6, a7⟩ := h.2 k hk
  rw [hX, hV, h907, h906, h911, up1_n (show 9 * k ≠ 9 * T + 2 by omega), up1_n (show 9 * k + 1 ≠ 9 * T + 2 by omega), up1_n (show 9 * k + 4 ≠ 9 * T + 2 by omega)]
  refine ⟨a1, a2, ?_, a4, a5, a6, ?_⟩
  · by_cases e : k = T
    · subst e; rw [up1_s, up1_s]
    · rw [up1_n (show 9 * k + 2 ≠ 9 * T + 2 by omega), up1_n e]; exact a3
  · by_cases e : k = T
    · subst e; rw [up1_s]; omega
    · rw [up1_n e]; exact a7
theorem tf_ix {ku V : Nat} {ρ τ : St} (h : RTu ku V ρ τ) {its : Int32} (c : 0 ≤ htf (ρ.2.2.2 902 ku) its 4 0) : tn (htf (ρ.2.2.2 902 ku) its 4 0) < 4 ∧ τ.2.2.1 V 0 (tn (htf (ρ.2.2.2 902 ku) its 4 0)) < τ.2.2.1 907 0 (tn (htf (ρ.2.2.2 902 ku) its 4 0)) ∧ tn (ρ.2.2.2 902 ku (9 * tn (htf (ρ.2.2.2 902 ku) its 4 0) + 2)) = τ.2.2.1 V 0 (tn (htf (ρ.2.2.2 902 ku) its 4 0)) := by
  have hT := ix_lt (htf_ix 4 0 (by decide) (le_nlt c))
  have hl := htf_lt 4 0 (by decide) c
  obtain ⟨a1, a2, a3, a4, a5, a6, a7⟩ := h.2 _ hT
  rw [a2, a3, nI_leI (by omega) (by omega)] at hl
  exact ⟨hT, by omega, by rw [a3, tn_nI (by omega)]⟩
theorem cell_w {c off wr T mp ht z : Nat} (h1 : off < 401) (h2 : wr < 250) (hT : T < 4) (hm : mp < 101) (hh : ht < 109) (h4 : z < 16) : (c / 17592186044416 % 16 * 17592186044416 + (off * 17179869184 + (wr * 67108864 + (((T + 1) + mp * 64 + ht * 16384) * 16 + z)))) % 16 = z ∧ (c / 17592186044416 % 16 * 17592186044416 + (off * 17179869184 + (wr * 67108864 + (((T + 1) + mp * 64 + ht * 16384) * 16 + z)))) / 17592186044416 % 16 = c / 17592186044416 % 16 := by
  constructor <;> omega
theorem cell_w2 {c off wr T mp ht z : Nat} (h1 : off < 401) (h2 : wr < 250) (hT : T < 4) (hm : mp < 101) (hh : ht < 109) (h4 : z < 16) : (c / 17592186044416 % 16 * 17592186044416 + (off * 17179869184 + (wr * 67108864 + (((T + 1) + mp * 64 + ht * 16384) * 16 + z)))) / 16 % 64 = T + 1 ∧ (c / 17592186044416 % 16 * 17592186044416 + (off * 17179869184 + (wr * 67108864 + (((T + 1) + mp * 64 + ht * 16384) * 16 + z)))) / 1024 % 256 = mp ∧ (c / 17592186044416 % 16 * 17592186044416 + (off * 17179869184 + (wr * 67108864 + (((T + 1) + mp * 64 + ht * 16384) * 16 + z)))) / 262144 % 256 = ht ∧ (c / 17592186044416 % 16 * 17592186044416 + (off * 17179869184 + (wr * 67108864 + (((T + 1) + mp * 64 + ht * 16384) * 16 + z)))) / 67108864 % 256 = wr ∧ (c / 17592186044416 % 16 * 17592186044416 + (off * 17179869184 + (wr * 67108864 + (((T + 1) + mp * 64 + ht * 16384) * 16 + z)))) / 17179869184 % 1024 = off ∧ (c / 17592186044416 % 16 * 17592186044416 + (off * 17179869184 + (wr * 67108864 + (((T + 1) + mp * 64 + ht * 16384) * 16 + z)))) < 281474976710656 := by
  refine ⟨?_, ?_, ?_, ?_, ?_, ?_⟩ <;> omega
theorem fx_m1 : fx (-1) = nI 5 := if_pos rfl
theorem ss1 : SSim kr ku km fr (nI 1) (QX1 kr ku p) (m_step1 p fr) := by
  intro ρ τ hs h6 hw hx1
  obtain ⟨hx, ht⟩ := hx1
  obtain ⟨d1, d2, d3, d4, hc⟩ := st_dec (fr := fr) (t9 := nI 1) hs hw hx
  have hE5 := hs.2.2.2.2.2.1
  have hcc := hx _ hc
  unfold h_step m_step1
  by_cases c1 : tn (ρ.2.2.2 904 0 6) < fr
  · rw [if_pos c1, if_neg (fun z => d1.mp z c1)]
    exact ⟨(fx_n (k := 0) (by decide)).symm, RW_6 hw h6, hx, ht⟩
  rw [if_neg c1, if_pos (d1.mpr c1)]
  by_cases c2 : tn (ρ.2.2.2 904 0 2) < ρ.2.2.1 900 kr (12 * tn (ρ.2.2.2 904 0 1) + tn (ρ.2.2.2 904 0 0)) / 17592186044416 % 16
  · rw [if_pos c2, if_pos (d2.mpr c2)]
    exact ⟨(fx_n (k := 3) (by decide)).symm, hw, hx, ht⟩
  rw [if_neg c2, if_neg (fun z => c2 (d2.mp z))]
  by_cases c3 : ρ.2.2.1 900 kr (12 * tn (ρ.2.2.2 904 0 1) + tn (ρ.2.2.2 904 0 0)) % 16 ≤ tn (ρ.2.2.2 904 0 2)
  · rw [if_pos c3, if_pos (fun z => d3.mp z c3)]
    exact ⟨(fx_n (k := 0) (by decide)).symm, RW_6 hw h6, hx, ht⟩
  rw [if_neg c3, if_neg (not_not_intro9 (d3.mpr c3)), ← hw.2.1]
  by_cases c4 : ρ.2.2.2 904 0 3 = 0
  · rw [if_pos c4, if_pos c4]
    exact ⟨(fx_n (k := 3) (by decide)).symm, hw, hx, ht⟩
  rw [if_neg c4, if_neg c4]
  by_cases c5 : 0 ≤ ρ.2.2.2 904 0 5
  · rw [if_pos c5, if_pos (d4.mpr c5), if_neg (show ¬ (nI 1 : Int32) = 0 by decide)]
    have b5 := ix_lt (hE5 c5)
    have b2 := ix_lt hs.2.2.2.2.1
    have b0 := ix_lt hs.2.2.1
    have etf : m_tf 909 (τ.2.1 942 0) τ = htf (ρ.2.2.2 902 ku) (ρ.2.2.2 904 0 5) 4 0 := by rw [← hw.2.2.2.1]; exact (rt_tf ht _).symm
    rw [etf]
    by_cases c6 : 0 ≤ htf (ρ.2.2.2 902 ku) (ρ.2.2.2 904 0 5) 4 0
    · rw [if_pos c6, if_pos (show ¬ htf (ρ.2.2.2 902 ku) (ρ.2.2.2 904 0 5) 4 0 = (-1) from fun z => by rw [z] at c6; exact absurd c6 (by decide))]
      obtain ⟨hT, hlt, hU2⟩ := tf_ix ht c6
      generalize htf (ρ.2.2.2 902 ku) (ρ.2.2.2 904 0 5) 4 0 = TF at hT hlt hU2 ⊢
      have h907 := (ht.2 _ hT).2.2.2.2.2.1
      have hoff := ix_lt (hs.2.2.2.2.2.2.2.2.2.1 _ hT)
      have hmp := ix_lt (hs.2.2.2.2.2.2.2.2.2.2.2 _ b0)
      have hM1 := ix_lt hs.2.2.2.2.2.2.2.2.2.2.1
      have hht : tn (ρ.2.2.2 903 km 1) * tn (ρ.2.2.2 904 0 0) ≤ 99 * 11 := Nat.mul_le_mul (by omega) (by omega)
      obtain ⟨w1, w2⟩ := cell_w (c := ρ.2.2.1 900 kr (12 * tn (ρ.2.2.2 904 0 1) + tn (ρ.2.2.2 904 0 0))) (off := tn (ρ.2.2.2 902 ku (9 * tn TF + 3) + nI 200)) (wr := tn (ρ.2.2.2 902 ku (9 * tn TF + 2)) / 4) (T := tn TF) (mp := tn (ρ.2.2.2 903 km (4 + tn (ρ.2.2.2 904 0 0)) + nI 50)) (ht := (tn (ρ.2.2.2 903 km 1) * tn (ρ.2.2.2 904 0 0)) / 10) (z := tn (ρ.2.2.2 904 0 2)) hoff (by omega) hT hmp (by omega) (by omega)
      have hcr : ∀ f : Nat → Nat, ∀ a b v, up1 (up1 f a b) a v = up1 f a v := fun f a b v => by funext i; unfold up1; split <;> rfl
      generalize hwv : ρ.2.2.1 900 kr (12 * tn (ρ.2.2.2 904 0 1) + tn (ρ.2.2.2 904 0 0)) / 17592186044416 % 16 * 17592186044416 + (tn (ρ.2.2.2 902 ku (9 * tn TF + 3) + nI 200) * 17179869184 + (tn (ρ.2.2.2 902 ku (9 * tn TF + 2)) / 4 * 67108864 + ((tn TF + 1 + tn (ρ.2.2.2 903 km (4 + tn (ρ.2.2.2 904 0 0)) + nI 50) * 64 + tn (ρ.2.2.2 903 km 1) * tn (ρ.2.2.2 904 0 0) / 10 * 16384) * 16 + tn (ρ.2.2.2 904 0 2)))) = w at w1 w2 ⊢
      have e0 := hw.1 0 (by decide)
      have e1 := hw.1 1 (by decide)
      have e2 := hw.1 2 (by decide)
      rw [e0, e1, e2, ← hw.2.2.2.1]
      generalize hcd : 12 * tn (ρ.2.2.2 904 0 1) + tn (ρ.2.2.2 904 0 0) = cd at hc w1 w2 ⊢
      generalize tn TF = T at hT hlt hU2 ⊢
      generalize hX0 : wB ρ 904 0 (8 + tn (ρ.2.2.2 904 0 5)) (ρ.2.2.2 904 0 (8 + tn (ρ.2.2.2 904 0 5)) + nI 1) = X0
      have x1 : X0.2.2.1 = ρ.2.2.1 := by rw [← hX0]; rfl
      have x2 : ∀ F, F ≠ 904 → X0.2.2.2 F = ρ.2.2.2 F := fun F z => by rw [← hX0]; exact wB_o z
      generalize hX1 : wA (wA X0 900 kr cd (ρ.2.2.1 900 kr cd / 16 * 16 + tn (ρ.2.2.2 904 0 2))) 900 kr cd w = X1
      have y1 : X1.2.2.1 900 kr = up1 (ρ.2.2.1 900 kr) cd w := by rw [← hX1, wA_3, wA_3, hcr, x1]
      have y2 : X1.2.2.2 = X0.2.2.2 := by rw [← hX1]; rfl
      generalize hX2 : wB X1 902 ku (9 * T + 2) (nI (tn (ρ.2.2.2 902 ku (9 * T + 2)) + 1)) = X2
      have z1 : X2.2.2.1 = X1.2.2.1 := by rw [← hX2]; rfl
      have z2 : X2.2.2.2 902 ku = up1 (ρ.2.2.2 902 ku) (9 * T + 2) (nI (τ.2.2.1 909 0 T + 1)) := by rw [← hX2, wB_3, y2, x2 902 (by decide), hU2]
      have z3 : X2.2.2.2 904 = X0.2.2.2 904 := by rw [← hX2, wB_o (by decide), y2]
      generalize hX3 : wB (wB X2 903 km 0 (ρ.2.2.2 903 km 0 + nI 1)) 903 km 1 (nI (if ¬ tn (ρ.2.2.2 903 km 1) = 99 then tn (ρ.2.2.2 903 km 1) + 1 else 99)) = X3
      have v1 : X3.2.2.1 = X2.2.2.1 := by rw [← hX3]; rfl
      have v2 : ∀ F, F ≠ 903 → X3.2.2.2 F = X2.2.2.2 F := fun F z => by rw [← hX3, wB_o z, wB_o z]
      generalize hY : wB (wA (wA τ 909 0 T (τ.2.2.1 909 0 T + 1)) 936 0 (tn (ρ.2.2.2 904 0 5)) (τ.2.2.1 936 0 (tn (ρ.2.2.2 904 0 5)) + 1)) 935 0 cd (nI (tn (ρ.2.2.2 904 0 2))) = Y
      have u1 : Y.1 = τ.1 := by rw [← hY]; rfl
      have u2 : Y.2.1 = τ.2.1 := by rw [← hY]; rfl
      have u3 : ∀ F, F ≠ 909 → F ≠ 936 → Y.2.2.1 F = τ.2.2.1 F := fun F n1 n2 => by
        rw [← hY]
        exact (wA_o n2).trans (wA_o n1)
      have u4 : Y.2.2.1 936 0 = up1 (τ.2.2.1 936 0) (tn (ρ.2.2.2 904 0 5)) (τ.2.2.1 936 0 (tn (ρ.2.2.2 904 0 5)) + 1) := by
        rw [← hY]
        have q : (wA τ 909 0 T (τ.2.2.1 909 0 T + 1)).2.2.1 936 = τ.2.2.1 936 := wA_o (by decide)
        show (wA (wA τ 909 0 T (τ.2.2.1 909 0 T + 1)) 936 0 (tn (ρ.2.2.2 904 0 5)) (τ.2.2.1 936 0 (tn (ρ.2.2.2 904 0 5)) + 1)).2.2.1 936 0 = _
        rw [wA_3, q]
      have u5 : Y.2.2.1 909 0 = up1 (τ.2.2.1 909 0) T (τ.2.2.1 909 0 T + 1) := by
        rw [← hY]
        show (wA (wA τ 909 0 T (τ.2.2.1 909 0 T + 1)) 936 0 (tn (ρ.2.2.2 904 0 5)) (τ.2.2.1 936 0 (tn (ρ.2.2.2 904 0 5)) + 1)).2.2.1 909 0 = _
        have q : (wA (wA τ 909 0 T (τ.2.2.1 909 0 T + 1)) 936 0 (tn (ρ.2.2.2 904 0 5)) (τ.2.2.1 936 0 (tn (ρ.2.2.2 904 0 5)) + 1)).2.2.1 909 = (wA τ 909 0 T (τ.2.2.1 909 0 T + 1)).2.2.1 909 := wA_o (by decide)
        rw [q, wA_3]
      have u6 : Y.2.2.2 935 0 = up1 (τ.2.2.2 935 0) cd (nI (tn (ρ.2.2.2 904 0 2))) := by
        rw [← hY]
        exact wB_3
      have u7 : ∀ F, F ≠ 935 → Y.2.2.2 F = τ.2.2.2 F := fun F z => by rw [← hY]; exact wB_o z
      refine ⟨(fx_n (k := 0) (by decide)).symm, ?_, ?_, ?_⟩
      · have e9 : wN Y 943 0 (τ.1 943 0 + 1) = wN Y 943 0 (Y.1 943 0 + 1) := by rw [u1]
        show RW _ (wN Y 943 0 (τ.1 943 0 + 1))
        rw [e9]
        exact RW_cut hw h6 b5 (by rw [v2 904 (by decide), z3, hX0]) (u3 937 (by decide) (by decide)) u2 (by rw [u1]) u4
      · exact QX0_cut (c := cd) (z := tn (ρ.2.2.2 904 0 2)) (w := w) hx hc (by show X3.2.2.1 900 kr = _; rw [v1, z1, y1]) w1 w2 u6 (u7 916 (by decide))
      · exact RTu_cut (T := T) ht hT hlt (by show (wB X3 904 0 6 _).2.2.2 902 ku = _; rw [wB_o (by decide), v2 902 (by decide), z2]) u5 ((wN_o (σ := Y) (F := 943) (F' := 914) (by decide)).trans (by rw [u1])) (u3 907 (by decide) (by decide)) (u7 906 (by decide)) (u7 911 (by decide))
    · have em : htf (ρ.2.2.2 902 ku) (ρ.2.2.2 904 0 5) 4 0 = (-1) := (htf_m1 4 0 (by decide)).resolve_right c6
      rw [if_neg c6, if_neg (not_not_intro9 em)]
      exact ⟨fx_m1.symm, hw, hx, ht⟩
  · rw [if_neg c5, if_neg (fun z => c5 (d4.mp z))]
    exact ⟨(fx_n (k := 3) (by decide)).symm, hw, hx, ht⟩
end STs9
