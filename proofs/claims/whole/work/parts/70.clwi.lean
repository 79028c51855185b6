/-! THE LAW FROM ITS START -/
theorem dfs_8 : ∀ j, j < (flds 8).length → defaultValue (tyX8 j) = vp_V (dfs 8) j := fun j hj => by
  have hj : j < 13 := hj
  match j, hj with
  | 0, _ => rfl
  | 1, _ => rfl
  | 2, _ => rfl
  | 3, _ => rfl
  | 4, _ => rfl
  | 5, _ => rfl
  | 6, _ => rfl
  | 7, _ => rfl
  | 8, _ => rfl
  | 9, _ => rfl
  | 10, _ => rfl
  | 11, _ => rfl
  | 12, _ => rfl
theorem dfs_9 : ∀ j, j < (flds 9).length → defaultValue (tyX9 j) = vp_V (dfs 9) j := fun j hj => by
  have hj : j < 45 := hj
  match j, hj with
  | 0, _ => rfl
  | 1, _ => rfl
  | 2, _ => rfl
  | 3, _ => rfl
  | 4, _ => rfl
  | 5, _ => rfl
  | 6, _ => rfl
  | 7, _ => rfl
  | 8, _ => rfl
  | 9, _ => rfl
  | 10, _ => rfl
  | 11, _ => rfl
  | 12, _ => rfl
  | 13, _ => rfl
  | 14, _ => rfl
  | 15, _ => rfl
  | 16, _ => rfl
  | 17, _ => rfl
  | 18, _ => rfl
  | 19, _ => rfl
  | 20, _ => rfl
  | 21, _ => rfl
  | 22, _ => rfl
  | 23, _ => rfl
  | 24, _ => rfl
  | 25, _ => rfl
  | 26, _ => rfl
  | 27, _ => rfl
  | 28, _ => rfl
  | 29, _ => rfl
  | 30, _ => rfl
  | 31, _ => rfl
  | 32, _ => rfl
  | 33, _ => rfl
  | 34, _ => rfl
  | 35, _ => rfl
  | 36, _ => rfl
  | 37, _ => rfl
  | 38, _ => rfl
  | 39, _ => rfl
  | 40, _ => rfl
  | 41, _ => rfl
  | 42, _ => rfl
  | 43, _ => rfl
  | 44, _ => rfl
  | n + 45, h => exact absurd h (by omega)
def rfR : List Nat := [902, 903, 905, 906, 907, 908, 909, 910, 911, 912, 913, 915, 916, 917, 918, 919, 920, 921, 922, 923, 925, 927, 928, 929, 930, 931, 933, 935, 936, 937, 938, 939]
def rfL (a z : Nat) : Lay := fun F _ => if F = 999 then a else z + rfR.idxOf F
def rfD : List (Nat × Nat) := (999, 0) :: rfR.reverse.map (fun F => (F, 0))
theorem rf_in : ∀ F, F < 1000 → (F = 999 ∨ (F / 100 = 9 ∧ 2 ≤ fty F ∧ fty F ≤ 4)) → F = 999 ∨ F ∈ rfR := by decide +kernel
theorem rf_dl {F k : Nat} (h : rdom F k) : dl rfD F k := by
  obtain ⟨rfl, h⟩ := h
  have hF : F < 1000 := by rcases h with h | h <;> omega
  rcases rf_in F hF h with rfl | h
  · exact List.mem_cons_self
  · exact List.mem_cons_of_mem _ (List.mem_map.mpr ⟨F, List.mem_reverse.mpr h, rfl⟩)
section STARTs
variable {p : Program} {l : Launch} {e : Env} {R : Room} {s : State} {m : MethodId} {args : Array Value} {below : List Frame} {meth : Method} {c : Code} {Q : State → Prop} {ls : Array Slot} {b N : Nat} {xs : Nat → Int32} {Rel : St → St → Prop}
set_option maxRecDepth 100000 in
set_option maxHeartbeats 8000000 in
theorem law_start (hop : ∀ (D : va_G) (cI cZ cO : ClassId) (t0 mi : Nat), OPS D cI cZ cO t0 mi l Rel) (hR0 : Rel (k_gau 4) σz) (X : CallFix p m c cL_law 7 s args TB RL) (htl : ∀ w ∈ lw_tbl, w.before args s = true) (hgv : (Jvm.Cond.and given_1 narrow_1).before args s = true) (hXs : va_X b N xs s s.heap) (hbl : b < s.heap.size) (hN2 : N ≤ 3072) (hRf : 16 ≤ R.frames ∧ 632 ≤ R.locals) (hc : 100 + 16 * 512 ≤ R.cells ∧ 9000 + 1000 * 512 ≤ R.slots) (hl : lv_has ls 7 [(0, .ref b)])
    (kend : ∀ (H : Heap) (locs : List Loc) (ls : Array Slot), va_S (fun q => s.heap.size ≤ q) s.heap H locs → W p l e R s m args below meth c H locs (100 + 16 * 512) (9000 + 1000 * 512) Q (F0 m 1826 ls [])) : W p l e R s m args below meth c s.heap [] 0 0 Q (F0 m 0 ls []) := by
  have hx := X.1
  have hb := X.2.1
  have hA : ∀ a : Nat, a < s.heap.size → ¬ (fun q => s.heap.size ≤ q) a := fun a h z => by
    have : s.heap.size ≤ a := z
    omega
  obtain ⟨D, cI, cZ, cO, cJ, hK⟩ := st_K X.2.2.2.2 htl
  obtain ⟨t0, mi, hE⟩ := st_EE htl hgv hA
  have hX9 := st_EX htl hgv hA
  have hN := st_NC hgv
  have hAn : ∀ q, s.heap.size ≤ q → (fun q => s.heap.size ≤ q) q := fun _ h => h
  have hbA : ¬ (fun q => s.heap.size ≤ q) b := hA b hbl
  have hS : va_S (fun q => s.heap.size ≤ q) s.heap s.heap [] := va_S.rf
  have hKK := kk_kj hK
  refine r_new X hKK kX8 tw_1_26 rfl tw_1_27 tw_1_1 hS dfs_8 (by omega) (by show 0 + 13 ≤ _; omega) dL_law_0 (fun H1 hat hz hq hS => ?_)
  obtain ⟨a8, ha8⟩ : ∃ a, a = s.heap.size := ⟨_, rfl⟩
  rw [← ha8] at hat ⊢
  refine lv_dup hx hb dL_law_3 rfl ?_
  have hAA : ∀ x, oN a8 H1.size x → s.heap.size ≤ x := fun x h => h.elim (fun z => by omega) (fun z => by omega)
  have hlt : a8 < H1.size := by omega
  refine va_callv (va_runI (As := []) (rest := [.ref a8]) X (nX8_init (D := D) (cI := cI) (cZ := cZ) (cO := cO) (t0 := t0) (mi := mi) l a8 H1.size hlt) (yi_cw X.2.2.2.2 tw_1_29 tw_1_1 tw_1_30 ml_L_91 rfl ⟨by decide +kernel, by decide +kernel, by decide +kernel⟩ rfl rfl ⟨Nat.le_trans (by decide) hRf.1, Nat.le_trans (by decide) hRf.2⟩) ⟨cpe_blind, cpe_pre hKK hat ((hE.at hS).narrow hAA) ((hX9.at hS).narrow hAA) rfl⟩ rfl rfl hl.1 rfl (lv_room (Nat.le_of_ble_eq_true rfl)) dL_law_4 ⟨by show 0 + 1 + 40 ≤ _; omega, by show 0 + 13 + 500 ≤ _; omega⟩) hS (fun x _ h => hAA x h) (fun x h => hAA x h) ?_
  intro u t H2 locs2 ht _ _ hB hz2 hk2 hS2
  rw [ht] at hB
  obtain ⟨L, ow1, hLa, hO1, hC⟩ := hB
  have hS := hS2
  refine lv_astore_n (lv' := [(1, .ref a8), (0, .ref b)]) hx hb dL_law_7 rfl hl (by decide) rfl (fun ls hl => ?_)
  refine r_new X hKK kX9 tw_4_232 rfl tw_4_233 tw_1_12 hS dfs_9 (by show 0 + 1 + 40 + 1 ≤ _; omega) (by show 0 + 13 + 500 + 45 ≤ _; omega) dL_law_8 (fun H3 hat3 hz3 hq3 hS => ?_)
  obtain ⟨a9, ha9⟩ : ∃ a, a = H2.size := ⟨_, rfl⟩
  rw [← ha9] at hat3 ⊢
  refine lv_dup hx hb dL_law_11 rfl ?_
  obtain ⟨z9, hz9⟩ : ∃ z, z = H3.size := ⟨_, rfl⟩
  obtain ⟨Lr, hLr⟩ : ∃ L, L = rfL a9 z9 := ⟨_, rfl⟩
  have e9 : Lr 999 0 = a9 := by rw [hLr]; rfl
  have hM := nX9_init (D := D) (cI := cI) (cZ := cZ) (cO := cO) l Lr σz 0 z9 (fun z hz => by
    rw [hLr]
    simp only [List.mem_cons, List.not_mem_nil, or_false] at hz
    rcases hz with rfl | rfl | rfl | rfl | rfl | rfl | rfl | rfl | rfl | rfl | rfl | rfl | rfl | rfl | rfl | rfl | rfl | rfl | rfl | rfl | rfl | rfl | rfl | rfl | rfl | rfl | rfl | rfl | rfl | rfl | rfl | rfl <;> rfl) (fun _ _ _ => rfl) (fun _ _ _ => rfl) rfl rfl rfl rfl rfl rfl rfl rfl rfl rfl rfl rfl rfl
  rw [e9] at hM
  refine r_ctorI (As := []) (na := 0) (rest := [.ref a9]) X hKK hat3 hz9.symm hS (fun q h => h.elim (fun z => by show s.heap.size ≤ q; omega) (fun z => by show s.heap.size ≤ q; omega)) tw_4_235 tw_1_12 tw_4_236 ml_L_94 rfl ⟨by decide +kernel, by decide +kernel, by decide +kernel⟩ hM rfl rfl rfl hl.1 rfl (Nat.le_of_ble_eq_true rfl) ⟨Nat.le_trans (by decide) hRf.1, Nat.le_trans (by decide) hRf.2⟩ ⟨by show 0 + 1 + 40 + 1 + 32 ≤ _; omega, by show 0 + 13 + 500 + 45 + 7487 ≤ _; omega⟩ dL_law_12 (fun H4 locs4 hG4 hPz hz4 hq4 hS => ?_)
  refine lv_astore_n (lv' := [(2, .ref a9), (1, .ref a8), (0, .ref b)]) hx hb dL_law_15 rfl hl (by decide) rfl (fun ls hl => ?_)
  refine lv_iconst (v := nI 1) hx hb dL_law_16 (by decide) ?_
  refine va_newaK (atype := .long) X.1 X.2.1 (X.2.2.2.2 _ tw_6_87) rfl dL_law_17 rfl (by decide +kernel) (N := 1) (by decide +kernel) (by decide) (by show 0 + 1 + 40 + 1 + 32 + 1 ≤ _; omega) (by show 0 + 13 + 500 + 45 + 7487 + 1 ≤ _; omega) rfl (fun H5 cA e5 z5 o5 hAr hNm => ?_)
  have hcJ : cA = cJ := Option.some.inj (hNm.symm.trans (hK.2 3 (cJ, .long) rfl).2)
  subst hcJ
  obtain ⟨o9, ho9⟩ : ∃ o, o = H4.size := ⟨_, rfl⟩
  have hat5 : va_at D vwCl (H4.size, eLng cA (fun _ => 0)) H5 := by show H5[H4.size]? = some (vp_cell _ _); exact e5
  rw [← ho9] at hat5 ⊢
  have hS5 : va_S (fun q => s.heap.size ≤ q) s.heap H5 locs4 := ⟨by rw [z5]; have := hS.1; omega, fun q h1 h2 => (o5 q (by have := hS.1; omega)).trans (hS.2.1 q h1 h2), hS.2.2⟩
  refine lv_astore_n (lv' := [(3, .ref o9), (2, .ref a9), (1, .ref a8), (0, .ref b)]) hx hb dL_law_19 rfl hl (by decide) rfl (fun ls hl => ?_)
  refine lv_iconst (v := nI (6 * 0)) hx hb dL_law_20 (by decide) ?_
  refine lv_istore (lv' := [(4, .int (nI (6 * 0))), (3, .ref o9), (2, .ref a9), (1, .ref a8), (0, .ref b)]) hx hb dL_law_21 hl (by decide) rfl (fun ls hl => ?_)
  have hcl : ∀ F k, cdom (k_gau 4) F k → L F k < H2.size := fun F k hd => (hC.1.1 F k hd).lt
  have hca : ∀ F k, cdom (k_gau 4) F k → s.heap.size ≤ L F k := fun F k hd => (hO1 _ (hC.1.2.2 F k hd)).elim (fun z => by omega) (fun z => by omega)
  have hGr : PW D cI cZ cO rdom Lr σz (oN a9 z9) H4 := hG4.mono (fun F k h => rf_dl h)
  have hrl : ∀ F k, rdom F k → Lr F k < H4.size := fun F k hd => (hGr.1 F k hd).lt
  have hra : ∀ F k, rdom F k → a9 ≤ Lr F k := fun F k hd => (hGr.2.2 F k hd).elim (fun z => by omega) (fun z => by omega)
  have hsz2 := hS2.1
  have hC5 : CW D cI cZ cO t0 L (k_gau 4) (fun q => ∃ F k, cdom (k_gau 4) F k ∧ L F k = q) H5 := ⟨((((hC.1.ow2 (ow' := fun q => ∃ F k, cdom (k_gau 4) F k ∧ L F k = q) (fun F k hd => ⟨F, k, hd, rfl⟩)).kept2 (H1 := H3) (fun F k hd => hq3 _ (hcl F k hd))).kept2 (H1 := H4) (fun F k hd => hq4 _ (by have := hcl F k hd; omega) (by have := hcl F k hd; omega))).kept2 (H1 := H5) (fun F k hd => o5 _ (by have := hcl F k hd; omega))), hC.2⟩
  have hG5 : PW D cI cZ cO rdom Lr σz (fun q => ∃ F k, rdom F k ∧ Lr F k = q) H5 := (hGr.ow2 (ow' := fun q => ∃ F k, rdom F k ∧ Lr F k = q) (fun F k hd => ⟨F, k, hd, rfl⟩)).kept2 (H1 := H5) (fun F k hd => o5 _ (hrl F k hd))
  have hW : Wd D cI cZ cO cA t0 (fun q => s.heap.size ≤ q) a8 a9 o9 (fun _ => 0) (k_gau 4) σz H5 := by
    refine ⟨L, fun q => ∃ F k, cdom (k_gau 4) F k ∧ L F k = q, Lr, hLa, e9, hC5, hG5, hat5, fun q hq => ?_, fun F k hd => ?_, ?_⟩
    · obtain ⟨F, k, hd, rfl⟩ := hq
      have h1 := hcl F k hd
      have h2 := hca F k hd
      exact ⟨h2, by omega, fun F' k' hd' e => by have := hra F' k' hd'; omega⟩
    · have h1 := hrl F k hd
      have h2 := hra F k hd
      exact ⟨by show s.heap.size ≤ _; omega, by omega⟩
    · show s.heap.size ≤ o9
      have := hS.1
      omega
  refine W.widen (k := 100 + 16 * 0) (n := 9000 + 1000 * 0) (by show 0 + 1 + 40 + 1 + 32 + 1 ≤ 100 + 16 * 0; omega) (by show 0 + 13 + 500 + 45 + 7487 + 1 ≤ 9000 + 1000 * 0; omega) ?_
  refine l_loop (c0 := 100) (s0 := 9000) (hop D cI cZ cO t0 mi) X hK hE hX9 hN hAn hXs hbl hbA hN2 hRf hc (fun j H locs ls hj hS => ?_) N 0 (by omega) (by omega) _ _ _ H5 locs4 ls hW hR0 hS5 (lv_sub hl [0, 4, 3, 2, 1] rfl)
  exact W.widen (by omega) (by omega) (kend H locs ls hS)
end STARTs
