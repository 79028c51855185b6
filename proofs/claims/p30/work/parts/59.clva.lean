/-! the gauges of a new shop; cells made one after the other are a world -/
def i_1 (k : Nat) (σ : St) : St := wI (wI σ 100 k (-1)) 101 k 0
theorem i_1_off {k : Nat} {σ : St} : Off 1 k σ (i_1 k σ) := by
  unfold i_1
  exact (Off.tr (off_wI (C := 1) (F0 := 100) (by decide)) (off_wI (C := 1) (F0 := 101) (by decide)))
theorem hnl_1 : ∀ f, f < 100 → isL (100 * 1 + f) → 100 * 1 + f ∈ ([199] : List Nat) := by unfold isL; decide +kernel
theorem hinj_1 : ∀ F, F < 600 → cj (F / 100) = 3 → F / 100 = 1 := by decide +kernel
theorem lj_le {j : Nat} (hj : j < 8) : lj j < 8 := by
  rcases (by omega : j = 0 ∨ j = 1 ∨ j = 2 ∨ j = 3 ∨ j = 4 ∨ j = 5 ∨ j = 6 ∨ j = 7) with rfl | rfl | rfl | rfl | rfl | rfl | rfl | rfl <;> decide
/-- an object more, put into its own list -/
theorem ci_new {C j k : Nat} {σ σ9 : St} (hI : CI σ) (hC5 : C ≤ 5) (ho : Off C k σ σ9) (hj : j < 8) (hlj : lj j = j) (hk : k = σ.1 1002 j) (h3 : σ.1 1002 j < 30000) : CI (ladd j k σ9) := by
  have e2 : ∀ q, σ9.1 1002 q = σ.1 1002 q := fun q => (ho 1002 q (by omega)).1.1
  have e3 : ∀ q, σ9.1 1003 q = σ.1 1003 q := fun q => (ho 1003 q (by omega)).1.1
  have eA : ∀ q, σ9.2.2.1 1001 q = σ.2.2.1 1001 q := fun q => (ho 1001 q (by omega)).2.1
  have f2 : ∀ q, q ≠ j → (ladd j k σ9).1 1002 q = σ.1 1002 q := fun q e => (((ladd_off j k 0 (fun _ _ => 0) σ9).1 1002 q (fun z => e z.2)).1).trans (e2 q)
  have f3 : ∀ q, q ≠ j → (ladd j k σ9).1 1003 q = σ.1 1003 q := fun q e => (((ladd_off j k 0 (fun _ _ => 0) σ9).1 1003 q (fun z => e z.2)).1).trans (e3 q)
  have fA : ∀ q, q ≠ j → (ladd j k σ9).2.2.1 1001 q = σ.2.2.1 1001 q := fun q e => ((ladd_off j k 0 (fun _ _ => 0) σ9).2.1 1001 q (fun z => e z.2)).1.trans (eA q)
  have n2 : (ladd j k σ9).1 1002 j = σ.1 1002 j + 1 := by rw [ladd_N, e2]
  have n3 : (ladd j k σ9).1 1003 j = lcap (σ.1 1002 j) (σ.1 1003 j) := by rw [ladd_C, e2, e3]
  have nA : (ladd j k σ9).2.2.1 1001 j = up1 (σ.2.2.1 1001 j) (σ.1 1002 j) k := by rw [ladd_A, eA, e2]
  have mono : ∀ q, σ.1 1002 q ≤ (ladd j k σ9).1 1002 q := fun q => by
    by_cases e : q = j
    · subst e; rw [n2]; omega
    · rw [f2 q e]; exact Nat.le_refl _
  refine ⟨fun q hq => ?_, fun q hq i hi => ?_⟩
  · by_cases e : q = j
    · subst e
      obtain ⟨a, b, c⟩ := hI.1 q hq
      rw [n2, n3]
      unfold lcap
      by_cases d : σ.1 1002 q = σ.1 1003 q
      · rw [if_pos d]
        by_cases d2 : σ.1 1003 q = 0
        · rw [if_pos d2]; omega
        · rw [if_neg d2]; omega
      · rw [if_neg d]; omega
    · rw [f2 q e, f3 q e]; exact hI.1 q hq
  · by_cases e : q = j
    · subst e
      rw [hlj, n2, nA]
      rw [n2] at hi
      by_cases d : i = σ.1 1002 q
      · subst d; rw [up1_s]; omega
      · rw [up1_n d]
        have := hI.2 q hq i (by omega)
        rw [hlj] at this
        omega
    · rw [fA q e]
      rw [f2 q e] at hi
      exact Nat.lt_of_lt_of_le (hI.2 q hq i hi) (mono _)
/-- cells one after the other, named -/
theorem wq_pw {D : va_G} {cI cZ cO : ClassId} {L : Lay} {σ : St} {lb : List (Nat × Nat)} {ws : List (Nat × va_E)} {a sz : Nat} {H : Heap} (hW : WQ D ws a sz H) (h : ws = lb.map (fun z => (L z.1 z.2, ent cI cZ cO L σ z.1 z.2))) : PW D cI cZ cO (dl lb) L σ (oN a sz) H := by
  have hat : ∀ i (z : Nat × Nat), lb[i]? = some z → ws[i]? = some (L z.1 z.2, ent cI cZ cO L σ z.1 z.2) := fun i z hz => by rw [h, List.getElem?_map, hz]; rfl
  have hlt : ∀ i j (z y : Nat × Nat), lb[i]? = some z → lb[j]? = some y → i < j → L z.1 z.2 < L y.1 y.2 := fun i j z y hz hy hij => by
    have h1 := List.pairwise_iff_getElem.mp hW.2.1
    obtain ⟨li, ei⟩ := List.getElem?_eq_some_iff.mp (hat i z hz)
    obtain ⟨lj, ej⟩ := List.getElem?_eq_some_iff.mp (hat j y hy)
    have h2 := h1 i j (by simpa using li) (by simpa using lj) hij
    simp only [List.getElem_map, ei, ej] at h2
    exact h2
  refine ⟨fun F k hd => ?_, fun F k F' k' hd hd' e => ?_, fun F k hd => ?_⟩
  · obtain ⟨i, hi⟩ := List.getElem?_of_mem hd
    exact hW.1 i _ (hat i _ hi)
  · obtain ⟨i, hi⟩ := List.getElem?_of_mem hd
    obtain ⟨j, hj⟩ := List.getElem?_of_mem hd'
    rcases Nat.lt_trichotomy i j with c | c | c
    · have h2 : L F k < L F' k' := hlt i j _ _ hi hj c
      omega
    · subst c
      have := Option.some.inj (hi.symm.trans hj)
      exact ⟨congrArg Prod.fst this, congrArg Prod.snd this⟩
    · have h2 : L F' k' < L F k := hlt j i _ _ hj hi c
      omega
  · obtain ⟨i, hi⟩ := List.getElem?_of_mem hd
    exact Or.inr (hW.2.2.1 _ (List.mem_of_getElem? (hat i _ hi)))
def σz : St := (fun _ _ => 0, fun _ _ => 0, fun _ _ _ => 0, fun _ _ _ => 0)
def lbS : List (Nat × Nat) := [(1099, 0), (1099, 1), (1099, 2), (1099, 3), (1099, 4), (1099, 5), (806, 0), (807, 0), (808, 0), (799, 0), (1099, 6), (1099, 7), (702, 0), (703, 0), (699, 0), (600, 0), (601, 0)]
def shL (t0 a : Nat) (bs : List Nat) : Lay := fun F k => if F = 899 then a else if F = 1001 then t0 else bs.getD (match F with | 1099 => (if k < 6 then k else k + 4) | 806 => 6 | 807 => 7 | 808 => 8 | 799 => 9 | 702 => 12 | 703 => 13 | 699 => 14 | 600 => 15 | 601 => 16 | _ => 17) 0
theorem cd_z {F k : Nat} (h : cdom σz F k) : dl ((899, 0) :: lbS) F k := by
  rcases h with ⟨rfl, h⟩ | ⟨rfl, h⟩ | ⟨-, -, h⟩ | ⟨-, -, h⟩
  · have : ([899, 806, 807, 808, 799, 702, 703, 699, 600, 601] : List Nat).all (fun F => decide ((F, 0) ∈ ((899, 0) :: lbS))) = true := by decide
    show (F, 0) ∈ ((899, 0) :: lbS)
    exact of_decide_eq_true (List.all_eq_true.mp this F h)
  · have : (List.range 8).all (fun k => decide ((1099, k) ∈ ((899, 0) :: lbS))) = true := by decide
    show (1099, k) ∈ ((899, 0) :: lbS)
    exact of_decide_eq_true (List.all_eq_true.mp this k (List.mem_range.mpr h))
  · exact absurd rfl h
  · exact absurd h (Nat.not_lt_zero _)
theorem ci_z : CI σz := ⟨fun _ _ => ⟨Nat.le_refl _, (by decide : 0 < 50000), Or.inl rfl⟩, fun _ _ _ h => absurd h (Nat.not_lt_zero _)⟩
/-- the shop at its start, its gauges not yet made -/
theorem sh_cw {D : va_G} {cI cZ cO : ClassId} {t0 a sz : Nat} {b0 b1 b2 b3 b4 b5 b6 b7 b8 b9 b10 b11 b12 b13 b14 b15 b16 : Nat} {H : Heap}
    (hW : WQ D [(b0, eLst t0), (b1, eLst t0), (b2, eLst t0), (b3, eLst t0), (b4, eLst t0), (b5, eLst t0), (b6, eRow cI 12), (b7, eRow cI 4), (b8, eRow cI 4), (b9, .inr (vix 7, [.ref b10, .ref b11, .ref b12, .ref b13, .int 0, .int 0, .int 0, .int 0, .int 0, .int 0, .int 0])), (b10, eLst t0), (b11, eLst t0), (b12, eRow cI 6), (b13, eRow cI 3), (b14, .inr (vix 6, [.ref b15, .ref b16, .int 0, .int 0, .int 0])), (b15, eRow cI 144), (b16, eRow cI 4)] a sz H)
    (hat : va_at D vwCl (a, .inr (vix 8, [.ref b0, .ref b1, .ref b2, .ref b3, .ref b4, .ref b5, .ref b6, .ref b7, .ref b8, .ref b9, .ref b14, .int 0, .int 0])) H) :
    ∃ L : Lay, L 899 0 = a ∧ CW D cI cZ cO t0 L σz (oN a sz) H := by
  refine ⟨shL t0 a [b0, b1, b2, b3, b4, b5, b6, b7, b8, b9, b10, b11, b12, b13, b14, b15, b16], rfl, ?_, fun j _ _ => rfl⟩
  generalize hLL : shL t0 a [b0, b1, b2, b3, b4, b5, b6, b7, b8, b9, b10, b11, b12, b13, b14, b15, b16] = L
  have q0 : L 1099 0 = b0 := by rw [← hLL]; rfl
  have q1 : L 1099 1 = b1 := by rw [← hLL]; rfl
  have q2 : L 1099 2 = b2 := by rw [← hLL]; rfl
  have q3 : L 1099 3 = b3 := by rw [← hLL]; rfl
  have q4 : L 1099 4 = b4 := by rw [← hLL]; rfl
  have q5 : L 1099 5 = b5 := by rw [← hLL]; rfl
  have q6 : L 806 0 = b6 := by rw [← hLL]; rfl
  have q7 : L 807 0 = b7 := by rw [← hLL]; rfl
  have q8 : L 808 0 = b8 := by rw [← hLL]; rfl
  have q9 : L 799 0 = b9 := by rw [← hLL]; rfl
  have q10 : L 1099 6 = b10 := by rw [← hLL]; rfl
  have q11 : L 1099 7 = b11 := by rw [← hLL]; rfl
  have q12 : L 702 0 = b12 := by rw [← hLL]; rfl
  have q13 : L 703 0 = b13 := by rw [← hLL]; rfl
  have q14 : L 699 0 = b14 := by rw [← hLL]; rfl
  have q15 : L 600 0 = b15 := by rw [← hLL]; rfl
  have q16 : L 601 0 = b16 := by rw [← hLL]; rfl
  have q17 : L 899 0 = a := by rw [← hLL]; rfl
  have e1 : ∀ j, ent cI cZ cO L σz 1099 j = eLst t0 := fun j => by rw [ent_10, ← hLL]; rfl
  have e6 : ent cI cZ cO L σz 806 0 = eRow cI 12 := ent_B0 (by decide) (by decide) rfl (fun _ => rfl)
  have e7 : ent cI cZ cO L σz 807 0 = eRow cI 4 := ent_B0 (by decide) (by decide) rfl (fun _ => rfl)
  have e8 : ent cI cZ cO L σz 808 0 = eRow cI 4 := ent_B0 (by decide) (by decide) rfl (fun _ => rfl)
  have e12 : ent cI cZ cO L σz 702 0 = eRow cI 6 := ent_A0 (by decide) (by decide) rfl (fun _ => rfl)
  have e13 : ent cI cZ cO L σz 703 0 = eRow cI 3 := ent_A0 (by decide) (by decide) rfl (fun _ => rfl)
  have e15 : ent cI cZ cO L σz 600 0 = eRow cI 144 := ent_B0 (by decide) (by decide) rfl (fun _ => rfl)
  have e16 : ent cI cZ cO L σz 601 0 = eRow cI 4 := ent_A0 (by decide) (by decide) rfl (fun _ => rfl)
  have e9 : ent cI cZ cO L σz 799 0 = .inr (vix 7, [.ref b10, .ref b11, .ref b12, .ref b13, .int 0, .int 0, .int 0, .int 0, .int 0, .int 0, .int 0]) := by
    rw [show (799 : Nat) = 100 * 7 + 99 from rfl, ent_o, ofl_7, q10, q11, q12, q13]; rfl
  have e14 : ent cI cZ cO L σz 699 0 = .inr (vix 6, [.ref b15, .ref b16, .int 0, .int 0, .int 0]) := by
    rw [show (699 : Nat) = 100 * 6 + 99 from rfl, ent_o, ofl_6, q15, q16]; rfl
  have e17 : ent cI cZ cO L σz 899 0 = .inr (vix 8, [.ref b0, .ref b1, .ref b2, .ref b3, .ref b4, .ref b5, .ref b6, .ref b7, .ref b8, .ref b9, .ref b14, .int 0, .int 0]) := by
    rw [show (899 : Nat) = 100 * 8 + 99 from rfl, ent_o, ofl_8, q0, q1, q2, q3, q4, q5, q6, q7, q8, q9, q14]; rfl
  have hG := wq_pw (cI := cI) (cZ := cZ) (cO := cO) (L := L) (σ := σz) (lb := lbS) hW (by
    unfold lbS
    simp only [List.map_cons, List.map_nil, e1, e6, e7, e8, e9, e12, e13, e14, e15, e16, q0, q1, q2, q3, q4, q5, q6, q7, q8, q9, q10, q11, q12, q13, q14, q15, q16])
  have ha := hW.2.2.2.1
  refine (hG.add (F := 899) (k := 0) (by rw [q17, e17]; exact hat) (fun F' k' hd => ?_) (Or.inl q17)).mono (fun F k h => cd_z h)
  rw [q17]
  obtain ⟨i, hi⟩ := List.getElem?_of_mem hd
  intro e
  rcases hG.2.2 F' k' hd with z | z
  · have h9 : ∀ x ∈ lbS, sz ≤ L x.1 x.2 := fun x hx => by
      simp only [lbS, List.mem_cons, List.not_mem_nil, or_false] at hx
      have hq := hW.2.2.1
      simp only [List.mem_cons, List.not_mem_nil, or_false, forall_eq_or_imp, forall_eq] at hq
      rcases hx with rfl | rfl | rfl | rfl | rfl | rfl | rfl | rfl | rfl | rfl | rfl | rfl | rfl | rfl | rfl | rfl | rfl
      · show sz ≤ L 1099 0
        omega
      · show sz ≤ L 1099 1
        omega
      · show sz ≤ L 1099 2
        omega
      · show sz ≤ L 1099 3
        omega
      · show sz ≤ L 1099 4
        omega
      · show sz ≤ L 1099 5
        omega
      · show sz ≤ L 806 0
        omega
      · show sz ≤ L 807 0
        omega
      · show sz ≤ L 808 0
        omega
      · show sz ≤ L 799 0
        omega
      · show sz ≤ L 1099 6
        omega
      · show sz ≤ L 1099 7
        omega
      · show sz ≤ L 702 0
        omega
      · show sz ≤ L 703 0
        omega
      · show sz ≤ L 699 0
        omega
      · show sz ≤ L 600 0
        omega
      · show sz ≤ L 601 0
        omega
    have := h9 _ hd
    have : sz ≤ L F' k' := this
    omega
  · omega
