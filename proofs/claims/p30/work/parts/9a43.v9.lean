theorem hd_n : ∀ z ∈ ([(900, 0), (900, 1), (901, 0), (902, 0), (903, 0), (904, 0), (905, 0)] : List (Nat × Nat)), vdom z.1 z.2 := by
  intro z hz
  simp only [List.mem_cons, List.not_mem_nil, or_false] at hz
  rcases hz with h9 | h9 | h9 | h9 | h9 | h9 | h9 <;> subst h9
  · exact vd_0 (by decide)
  · exact vd_0 (by decide)
  · exact vd_1 (by decide)
  · exact vd_1 (by decide)
  · exact vd_1 (by decide)
  · exact vd_1 (by decide)
  · exact vd_1 (by decide)
theorem hd_c : ∀ z ∈ ([(902, 0)] : List (Nat × Nat)), vdom z.1 z.2 := by
  intro z hz
  simp only [List.mem_cons, List.not_mem_nil, or_false] at hz
  subst hz
  exact vd_1 (by decide)
set_option maxRecDepth 100000 in
set_option maxHeartbeats 4000000 in
theorem v_L_holds {D : va_G} {cI cZ cO : ClassId} {t0 mi z0 x9 : Nat} {L : Lay} (l : Launch) {b : Nat} (hl9 : l.stackTraces = false) (N : Nat) (xs : Nat → Int32) (hbz : b < z0) (hN : N ≤ 3072) : VSI D cI cZ cO t0 mi z0 l yL_holds cL_holds 15 ((some FieldType.boolean)) 16 550 3636 45424 [.ref b] b N xs VT9 VT9 (nI 1) := by
  refine vsi_of rfl (Nat.le_of_ble_eq_true rfl) ?_
  intro p e s m args below meth c ls X hK hE hX hP hXs hz hr hlocks hl
  have X : CallFix p m c cL_holds 15 s args TB RL := X
  have hx := X.1
  have hb := X.2.1
  have hS : va_S (vA z0) s.heap s.heap [] := va_S.rf
  have hl : lv_has ls 15 [(0, .ref b)] := hl
  have hAz : ∀ q, s.heap.size ≤ q → vA z0 q := fun q h => Nat.le_trans hz h
  refine r_new X hK kX8 tw_1_34 rfl tw_1_35 tw_1_1 hS dfs_8 (Nat.le_of_ble_eq_true rfl) (Nat.le_of_ble_eq_true rfl) dL_holds_0 (fun H1 hat hz1 hq1 hS => ?_)
  obtain ⟨x9, hx9⟩ : ∃ a, a = s.heap.size := ⟨_, rfl⟩
  rw [← hx9] at hat ⊢
  refine lv_dup hx hb dL_holds_3 rfl ?_
  have hAA : ∀ x, oN x9 H1.size x → vA z0 x := fun x h => hAz x (h.elim (fun z => by omega) (fun z => by omega))
  have hlt : x9 < H1.size := by omega
  refine va_callv (va_runI (As := []) (rest := [.ref x9]) X (nX8_init (D := D) (cI := cI) (cZ := cZ) (cO := cO) (t0 := t0) (mi := mi) l x9 H1.size hlt) (yi_cw X.2.2.2.2 tw_1_37 tw_1_1 tw_1_38 ml_L_171 rfl ⟨by decide +kernel, by decide +kernel, by decide +kernel⟩ rfl rfl ⟨Nat.le_of_ble_eq_true rfl, Nat.le_of_ble_eq_true rfl⟩) ⟨cpe_blind, cpe_pre hK hat ((hE.at hS).narrow hAA) ((hX.at hS).narrow hAA) rfl⟩ rfl rfl hl.1 rfl (lv_room (Nat.le_of_ble_eq_true rfl)) dL_holds_4 ⟨Nat.le_of_ble_eq_true rfl, Nat.le_of_ble_eq_true rfl⟩) hS (fun x _ h => hAA x h) (fun x h => hAA x h) ?_
  intro u t H locs ht _ _ hB hz2 hk2 hS
  rw [ht] at hB
  obtain ⟨Lc, ow1, hLa, hO1, hC⟩ := hB
  have hV := VX.start (ρ := σ9) (z0 := z0) hC hLa (fun q h => hAA q (hO1 q h)) (Nat.le_trans hz hS.1)
  refine lv_astore_n (lv' := [(1, .ref x9), (0, .ref b)]) hx hb dL_holds_7 rfl hl (by decide) rfl (fun ls hl => ?_)
  refine lv_bipush (v := nI 48) hx hb dL_holds_8 (by decide) ?_
  refine x_newJ X hK hV hS 900 0 48 LD0 (by decide) (fun z => z) (fun c9 L' => ent9_0 _ _ _ _ _) (by decide) ⟨Nat.le_of_ble_eq_true rfl, Nat.le_of_ble_eq_true rfl⟩ dL_holds_10 (fun a1 H hV hS => ?_)
  refine lv_astore_n (lv' := [(2, .ref a1), (1, .ref x9), (0, .ref b)]) hx hb dL_holds_12 rfl hl (by decide) rfl (fun ls hl => ?_)
  have d1 : LD _ := LD.a (F := 900) (k := 0) LD0 (by decide)
  refine lv_bipush (v := nI 48) hx hb dL_holds_13 (by decide) ?_
  refine x_newJ X hK hV hS 900 1 48 d1 (by decide) (by simp [dA]) (fun c9 L' => ent9_0 _ _ _ _ _) (by decide) ⟨Nat.le_of_ble_eq_true rfl, Nat.le_of_ble_eq_true rfl⟩ dL_holds_15 (fun a2 H hV hS => ?_)
  refine lv_astore_n (lv' := [(3, .ref a2), (2, .ref a1), (1, .ref x9), (0, .ref b)]) hx hb dL_holds_17 rfl hl (by decide) rfl (fun ls hl => ?_)
  have d2 : LD _ := LD.a (F := 900) (k := 1) d1 (by decide)
  refine lv_bipush (v := nI 39) hx hb dL_holds_18 (by decide) ?_
  refine x_newI X hK hV hS 901 0 39 d2 (by decide) (by simp [dA]) (fun c9 L' => ent9_1 _ _ _ _) (by decide) ⟨Nat.le_of_ble_eq_true rfl, Nat.le_of_ble_eq_true rfl⟩ dL_holds_20 (fun a3 H hV hS => ?_)
  refine lv_astore (lv' := [(4, .ref a3), (3, .ref a2), (2, .ref a1), (1, .ref x9), (0, .ref b)]) hx hb dL_holds_22 hl (by decide) rfl (fun ls hl => ?_)
  have d3 : LD _ := LD.a (F := 901) (k := 0) d2 (by decide)
  refine lv_bipush (v := nI 36) hx hb dL_holds_24 (by decide) ?_
  refine x_newI X hK hV hS 902 0 36 d3 (by decide) (by simp [dA]) (fun c9 L' => ent9_2 _ _ _ _) (by decide) ⟨Nat.le_of_ble_eq_true rfl, Nat.le_of_ble_eq_true rfl⟩ dL_holds_26 (fun a4 H hV hS => ?_)
  refine lv_astore (lv' := [(5, .ref a4), (4, .ref a3), (3, .ref a2), (2, .ref a1), (1, .ref x9), (0, .ref b)]) hx hb dL_holds_28 hl (by decide) rfl (fun ls hl => ?_)
  have d4 : LD _ := LD.a (F := 902) (k := 0) d3 (by decide)
  refine lv_bipush (v := nI 37) hx hb dL_holds_30 (by decide) ?_
  refine x_newI X hK hV hS 903 0 37 d4 (by decide) (by simp [dA]) (fun c9 L' => ent9_3 _ _ _ _) (by decide) ⟨Nat.le_of_ble_eq_true rfl, Nat.le_of_ble_eq_true rfl⟩ dL_holds_32 (fun a5 H hV hS => ?_)
  refine lv_astore (lv' := [(6, .ref a5), (5, .ref a4), (4, .ref a3), (3, .ref a2), (2, .ref a1), (1, .ref x9), (0, .ref b)]) hx hb dL_holds_34 hl (by decide) rfl (fun ls hl => ?_)
  have d5 : LD _ := LD.a (F := 903) (k := 0) d4 (by decide)
  refine lv_bipush (v := nI 20) hx hb dL_holds_36 (by decide) ?_
  refine x_newI X hK hV hS 904 0 20 d5 (by decide) (by simp [dA]) (fun c9 L' => ent9_4 _ _ _ _) (by decide) ⟨Nat.le_of_ble_eq_true rfl, Nat.le_of_ble_eq_true rfl⟩ dL_holds_38 (fun a6 H hV hS => ?_)
  refine lv_astore (lv' := [(7, .ref a6), (6, .ref a5), (5, .ref a4), (4, .ref a3), (3, .ref a2), (2, .ref a1), (1, .ref x9), (0, .ref b)]) hx hb dL_holds_40 hl (by decide) rfl (fun ls hl => ?_)
  have d6 : LD _ := LD.a (F := 904) (k := 0) d5 (by decide)
  refine lv_bipush (v := nI 11) hx hb dL_holds_42 (by decide) ?_
  refine x_newI X hK hV hS 905 0 11 d6 (by decide) (by simp [dA]) (fun c9 L' => ent9_5 _ _ _ _) (by decide) ⟨Nat.le_of_ble_eq_true rfl, Nat.le_of_ble_eq_true rfl⟩ dL_holds_44 (fun a7 H hV hS => ?_)
  refine lv_astore (lv' := [(8, .ref a7), (7, .ref a6), (6, .ref a5), (5, .ref a4), (4, .ref a3), (3, .ref a2), (2, .ref a1), (1, .ref x9), (0, .ref b)]) hx hb dL_holds_46 hl (by decide) rfl (fun ls hl => ?_)
  obtain ⟨L, hL⟩ : ∃ L : Lay, L = (up2 (up2 (up2 (up2 (up2 (up2 (up2 (fun _ _ => 0) 900 0 a1) 900 1 a2) 901 0 a3) 902 0 a4) 903 0 a5) 904 0 a6) 905 0 a7) := ⟨_, rfl⟩
  have e1 : a1 = L 900 0 := by rw [hL]; simp [up2, up1]
  have e2 : a2 = L 900 1 := by rw [hL]; simp [up2, up1]
  have e3 : a3 = L 901 0 := by rw [hL]; simp [up2, up1]
  have e4 : a4 = L 902 0 := by rw [hL]; simp [up2, up1]
  have e5 : a5 = L 903 0 := by rw [hL]; simp [up2, up1]
  have e6 : a6 = L 904 0 := by rw [hL]; simp [up2, up1]
  have e7 : a7 = L 905 0 := by rw [hL]; simp [up2, up1]
  rw [← hL] at hV
  clear hL
  rw [e1, e2, e3, e4, e5, e6, e7] at hl
  have hW : Vd D cI cZ cO t0 z0 x9 L (k_gau 4) σ9 H := VX.vd hV vd_7 (fun _ _ _ => rfl) (fun _ _ _ => rfl) (fun _ _ _ => rfl)
  have hP : V09 D cI cZ cO t0 z0 x9 L σ9 H := ⟨_, hW, rl_0⟩
  have hl : lv_has ls 15 [(8, .ref (L 905 0)), (7, .ref (L 904 0)), (6, .ref (L 903 0)), (5, .ref (L 902 0)), (4, .ref (L 901 0)), (3, .ref (L 900 1)), (2, .ref (L 900 0)), (1, .ref x9), (0, .ref b)] := hl
  refine lv_aload_n hx hb dL_holds_48 rfl (lv_at hl 7 rfl) ?_
  refine lv_aload_n hx hb dL_holds_49 rfl (lv_at hl 8 rfl) ?_
  refine lv_aload_n hx hb dL_holds_50 rfl (lv_at hl 6 rfl) ?_
  refine lv_aload_n hx hb dL_holds_51 rfl (lv_at hl 5 rfl) ?_
  refine lv_aload hx hb dL_holds_52 (lv_at hl 4 rfl) ?_
  refine lv_aload hx hb dL_holds_54 (lv_at hl 3 rfl) ?_
  refine lv_aload hx hb dL_holds_56 (lv_at hl 2 rfl) ?_
  refine lv_aload hx hb dL_holds_58 (lv_at hl 0 rfl) ?_
  refine vs_call X hK hE hX hXs hbz hz (P := V09 D cI cZ cO t0 z0 x9 L σ9) (P' := VQ D cI cZ cO t0 z0 x9 L 0) (hP) hS ysL_isBegun ml_L_172 [.ref x9, .ref b, .ref (L 900 0), .ref (L 900 1), .ref (L 901 0), .ref (L 902 0), .ref (L 903 0), .ref (L 905 0)] [] (v_L_isBegun (D := D) (cI := cI) (cZ := cZ) (cO := cO) (t0 := t0) (mi := mi) (z0 := z0) (x9 := x9) (L := L) l hl9 N xs σ9 hbz hN σ9_N σ9_1 σ9_2) rfl hl.1 rfl (Nat.le_of_ble_eq_true rfl) ⟨Nat.le_of_ble_eq_true rfl, Nat.le_of_ble_eq_true rfl⟩ ⟨Nat.le_of_ble_eq_true rfl, Nat.le_of_ble_eq_true rfl⟩ dL_holds_60 (fun H locs hP hS => ?_)
  refine lv_istore (lv' := [(9, .int (nI 1)), (8, .ref (L 905 0)), (7, .ref (L 904 0)), (6, .ref (L 903 0)), (5, .ref (L 902 0)), (4, .ref (L 901 0)), (3, .ref (L 900 1)), (2, .ref (L 900 0)), (1, .ref x9), (0, .ref b)]) hx hb dL_holds_63 hl (by decide) rfl (fun ls hl => ?_)
  refine lv_iconst (v := nI 0) hx hb dL_holds_65 (by decide) ?_
  refine lv_istore (lv' := [(10, .int (nI 0)), (9, .int (nI 1)), (8, .ref (L 905 0)), (7, .ref (L 904 0)), (6, .ref (L 903 0)), (5, .ref (L 902 0)), (4, .ref (L 901 0)), (3, .ref (L 900 1)), (2, .ref (L 900 0)), (1, .ref x9), (0, .ref b)]) hx hb dL_holds_66 hl (by decide) rfl (fun ls hl => ?_)
  refine r_loopP (ι := Nat) (fun (n9 : Nat) => [(0, .ref b), (1, .ref x9), (2, .ref (L 900 0)), (3, .ref (L 900 1)), (4, .ref (L 901 0)), (5, .ref (L 902 0)), (6, .ref (L 903 0)), (7, .ref (L 904 0)), (8, .ref (L 905 0)), (9, .int (nI 1)), (10, .int (nI n9))]) (fun (n9 : Nat) => (fun H => VQ D cI cZ cO t0 z0 x9 L (500 * n9) H)) (fun (n9 : Nat) => 48 - n9) (fun (n9 : Nat) => n9 ≤ 48) (fun n9 => 180 + 72 * n9) (fun n9 => 4432 + 854 * n9) 0 (Nat.zero_le _) hP hS (lv_sub hl [10, 9, 8, 7, 6, 5, 4, 3, 2, 1, 0] rfl) rfl rfl ?_
  rintro n9 hinv ih H locs ls hP hS hl
  have hP : VQ D cI cZ cO t0 z0 x9 L (500 * n9) H := hP
  have hl : lv_has ls 15 [(0, .ref b), (1, .ref x9), (2, .ref (L 900 0)), (3, .ref (L 900 1)), (4, .ref (L 901 0)), (5, .ref (L 902 0)), (6, .ref (L 903 0)), (7, .ref (L 904 0)), (8, .ref (L 905 0)), (9, .int (nI 1)), (10, .int (nI n9))] := hl
  have hn9 : n9 ≤ 48 := hinv
  refine lv_iload hx hb dL_holds_68 (lv_at hl 10 rfl) ?_
  refine lv_bipush (v := nI 48) hx hb dL_holds_70 (by decide) ?_
  refine r_icmp_geN (tgt := 451) hx hb dL_holds_72 (by decide) (by omega) (by omega) (fun c_72 => ?_) (fun c_72 => ?_)
  · refine lv_iload hx hb dL_holds_451 (lv_at hl 9 rfl) ?_
    exact vi_ret X hr hlocks (trivial) hS (rfl) (by (try dsimp only); omega) (by (try dsimp only); omega) rfl dL_holds_453
  · refine lv_iload hx hb dL_holds_75 (lv_at hl 9 rfl) ?_
    refine r_if_eqN (tgt := 451) hx hb dL_holds_77 (by decide) (by omega) (fun c_77 => absurd c_77 (by decide)) (fun c_77 => ?_)
    refine lv_aload_n hx hb dL_holds_80 rfl (lv_at hl 0 rfl) ?_
    refine lv_iconst (v := nI 2) hx hb dL_holds_81 (by decide) ?_
    refine lv_iload hx hb dL_holds_82 (lv_at hl 10 rfl) ?_
    refine r_mulN hx hb dL_holds_84 ?_
    refine lv_bipush (v := nI 32) hx hb dL_holds_85 (by decide) ?_
    refine vs_call X hK hE hX hXs hbz hz (P := VQ D cI cZ cO t0 z0 x9 L (500 * n9)) (P' := VQ D cI cZ cO t0 z0 x9 L (500 * n9)) (hP) hS ysL_from ml_L_149 [.ref b, .int (nI (2 * n9)), .int (nI 32)] [] (v_L_from (D := D) (cI := cI) (cZ := cZ) (cO := cO) (t0 := t0) (mi := mi) (z0 := z0) (x9 := x9) (L := L) (b := b) l N (2 * n9) 32 xs (VQ D cI cZ cO t0 z0 x9 L (500 * n9)) hbz hN (by omega) (by omega) (by omega)) rfl hl.1 rfl (Nat.le_of_ble_eq_true rfl) ⟨Nat.le_of_ble_eq_true rfl, Nat.le_of_ble_eq_true rfl⟩ ⟨by (try dsimp only); omega, by (try dsimp only); omega⟩ dL_holds_87 (fun H locs hP hS => ?_)
    obtain ⟨wy, hwy, bwy⟩ : ∃ v, v = h_from xs N (2 * n9) 32 ∧ v < 32 := ⟨_, rfl, from_lt (by decide)⟩
    refine r_top (y := nI wy) (congrArg nI hwy.symm) ?_
    refine lv_istore (lv' := [(11, .int (nI wy)), (0, .ref b), (1, .ref x9), (2, .ref (L 900 0)), (3, .ref (L 900 1)), (4, .ref (L 901 0)), (5, .ref (L 902 0)), (6, .ref (L 903 0)), (7, .ref (L 904 0)), (8, .ref (L 905 0)), (9, .int (nI 1)), (10, .int (nI n9))]) hx hb dL_holds_90 hl (by decide) rfl (fun ls hl => ?_)
    refine lv_aload_n hx hb dL_holds_92 rfl (lv_at hl 1 rfl) ?_
    refine lv_iconst (v := nI 2) hx hb dL_holds_93 (by decide) ?_
    refine lv_iload hx hb dL_holds_94 (lv_at hl 11 rfl) ?_
    refine r_mulN hx hb dL_holds_96 ?_
    refine lv_iconst (v := nI 1) hx hb dL_holds_97 (by decide) ?_
    refine r_addN hx hb dL_holds_98 ?_
    refine lv_ldc (v := 1000000000) hx hb X.2.2.2.1 (X.2.2.2.2 _ tw_3_98) dL_holds_99 ?_
    refine r_top (y := nI 1000000000) (by decide) ?_
    refine vs_call X hK hE hX hXs hbz hz (P := VQ D cI cZ cO t0 z0 x9 L (500 * n9)) (P' := VQ D cI cZ cO t0 z0 x9 L (500 * n9)) (hP) hS ysL_from ml_L_149 [.ref b, .int (nI (2 * n9 + 1)), .int (nI 1000000000)] [] (v_L_from (D := D) (cI := cI) (cZ := cZ) (cO := cO) (t0 := t0) (mi := mi) (z0 := z0) (x9 := x9) (L := L) (b := b) l N (2 * n9 + 1) 1000000000 xs (VQ D cI cZ cO t0 z0 x9 L (500 * n9)) hbz hN (by omega) (by omega) (by omega)) rfl hl.1 rfl (Nat.le_of_ble_eq_true rfl) ⟨Nat.le_of_ble_eq_true rfl, Nat.le_of_ble_eq_true rfl⟩ ⟨by (try dsimp only); omega, by (try dsimp only); omega⟩ dL_holds_101 (fun H locs hP hS => ?_)
    obtain ⟨zz, hzz, bzz⟩ : ∃ v, v = h_from xs N (2 * n9 + 1) 1000000000 ∧ v < 1000000000 := ⟨_, rfl, from_lt (by decide)⟩
    refine r_top (y := nI zz) (congrArg nI hzz.symm) ?_
    refine lv_istore (lv' := [(12, .int (nI zz)), (11, .int (nI wy)), (0, .ref b), (1, .ref x9), (2, .ref (L 900 0)), (3, .ref (L 900 1)), (4, .ref (L 901 0)), (5, .ref (L 902 0)), (6, .ref (L 903 0)), (7, .ref (L 904 0)), (8, .ref (L 905 0)), (9, .int (nI 1)), (10, .int (nI n9))]) hx hb dL_holds_104 hl (by decide) rfl (fun ls hl => ?_)
    refine lv_iload hx hb dL_holds_106 (lv_at hl 0 rfl) ?_
    refine lv_iconst (v := nI 2) hx hb dL_holds_108 (by decide) ?_
    refine r_remN hx hb (by omega) (by decide) (by decide) dL_holds_109 ?_
    refine lv_istore (lv' := [(13, .int (nI (zz % 2))), (12, .int (nI zz)), (11, .int (nI wy)), (0, .ref b), (1, .ref x9), (2, .ref (L 900 0)), (3, .ref (L 900 1)), (4, .ref (L 901 0)), (5, .ref (L 902 0)), (6, .ref (L 903 0)), (7, .ref (L 904 0)), (8, .ref (L 905 0)), (9, .int (nI 1)), (10, .int (nI n9))]) hx hb dL_holds_110 hl (by decide) rfl (fun ls hl => ?_)
    refine r_cutW (D := D) (A := vA z0) (H0 := s.heap) (nL := 15) (VQ D cI cZ cO t0 z0 x9 L (500 * n9 + 500)) 410 [(0, .ref b), (1, .ref x9), (2, .ref (L 900 0)), (3, .ref (L 900 1)), (4, .ref (L 901 0)), (5, .ref (L 902 0)), (6, .ref (L 903 0)), (7, .ref (L 904 0)), (8, .ref (L 905 0)), (9, .int (nI 1)), (10, .int (nI n9)), (12, .int (nI zz))] (180 + 72 * n9 + 11) (4432 + 854 * n9 + 206) (fun H locs ls hP hS hl => ?_) (fun J_410 => ?_)
    · have hl : lv_has ls 15 [(0, .ref b), (1, .ref x9), (2, .ref (L 900 0)), (3, .ref (L 900 1)), (4, .ref (L 901 0)), (5, .ref (L 902 0)), (6, .ref (L 903 0)), (7, .ref (L 904 0)), (8, .ref (L 905 0)), (9, .int (nI 1)), (10, .int (nI n9)), (12, .int (nI zz))] := hl
      refine lv_iload hx hb dL_holds_410 (lv_at hl 9 rfl) ?_
      refine r_if_eqN (tgt := 442) hx hb dL_holds_412 (by decide) (by omega) (fun c_412 => absurd c_412 (by decide)) (fun c_412 => ?_)
      refine lv_aload_n hx hb dL_holds_415 rfl (lv_at hl 1 rfl) ?_
      refine lv_aload_n hx hb dL_holds_416 rfl (lv_at hl 2 rfl) ?_
      refine lv_aload_n hx hb dL_holds_417 rfl (lv_at hl 3 rfl) ?_
      refine lv_aload hx hb dL_holds_418 (lv_at hl 4 rfl) ?_
      refine lv_aload hx hb dL_holds_420 (lv_at hl 5 rfl) ?_
      refine lv_aload hx hb dL_holds_422 (lv_at hl 6 rfl) ?_
      refine lv_aload hx hb dL_holds_424 (lv_at hl 7 rfl) ?_
      refine lv_aload hx hb dL_holds_426 (lv_at hl 8 rfl) ?_
      refine lv_iload hx hb dL_holds_428 (lv_at hl 11 rfl) ?_
      refine lv_iconst (v := nI 3) hx hb dL_holds_430 (by decide) ?_
      refine r_divN hx hb (by omega) (by decide) (by decide) dL_holds_431 ?_
      refine vi_call X hK hE hX (P := VQ D cI cZ cO t0 z0 x9 L (500 * n9 + 500)) (P' := VQ D cI cZ cO t0 z0 x9 L (500 * n9 + 500)) (hP) (Nat.le_trans hz hS.1) hS ysL_isSame ml_L_200 [.ref x9, .ref (L 900 0), .ref (L 900 1), .ref (L 901 0), .ref (L 902 0), .ref (L 903 0), .ref (L 904 0), .ref (L 905 0), .int (nI (zz / 3))] [] (v_L_isSame (D := D) (cI := cI) (cZ := cZ) (cO := cO) (t0 := t0) (mi := mi) (z0 := z0) (x9 := x9) (L := L) l hl9 (500 * n9 + 500) (zz / 3) (by omega)) rfl hl.1 rfl (Nat.le_of_ble_eq_true rfl) ⟨Nat.le_of_ble_eq_true rfl, Nat.le_of_ble_eq_true rfl⟩ ⟨by (try dsimp only); omega, by (try dsimp only); omega⟩ dL_holds_432 (fun H locs hP hS => ?_)
      refine r_if_eqN (tgt := 442) hx hb dL_holds_435 (by decide) (by omega) (fun c_435 => absurd c_435 (by decide)) (fun c_435 => ?_)
      refine lv_iconst (v := nI 1) hx hb dL_holds_438 (by decide) ?_
      refine lv_goto (tgt := 443) hx hb dL_holds_439 (by decide) ?_
      refine lv_istore (lv' := [(9, .int (nI 1)), (0, .ref b), (1, .ref x9), (2, .ref (L 900 0)), (3, .ref (L 900 1)), (4, .ref (L 901 0)), (5, .ref (L 902 0)), (6, .ref (L 903 0)), (7, .ref (L 904 0)), (8, .ref (L 905 0)), (10, .int (nI n9)), (12, .int (nI zz))]) hx hb dL_holds_443 hl (by decide) rfl (fun ls hl => ?_)
      refine r_iincN (b := 1) (lv' := [(10, .int (nI (n9 + 1))), (9, .int (nI 1)), (0, .ref b), (1, .ref x9), (2, .ref (L 900 0)), (3, .ref (L 900 1)), (4, .ref (L 901 0)), (5, .ref (L 902 0)), (6, .ref (L 903 0)), (7, .ref (L 904 0)), (8, .ref (L 905 0)), (12, .int (nI zz))]) hx hb dL_holds_445 hl (k := 10) rfl (by decide) (by decide) rfl (fun ls hl => ?_)
      refine lv_goto (tgt := 68) hx hb dL_holds_448 (by decide) ?_
      exact W.widen (by (try dsimp only); omega) (by (try dsimp only); omega) (ih (n9 + 1) (by show 48 - (n9 + 1) < 48 - n9; omega) (by show n9 + 1 ≤ 48; omega) H locs ls (by show VQ D cI cZ cO t0 z0 x9 L (500 * (n9 + 1)) H; rw [show 500 * (n9 + 1) = 500 * n9 + 500 by omega]; exact hP) hS (lv_sub hl [2, 3, 4, 5, 6, 7, 8, 9, 10, 1, 0] rfl))
    · refine lv_iload hx hb dL_holds_112 (lv_at hl 2 rfl) ?_
      refine lv_bipush (v := nI 6) hx hb dL_holds_114 (by decide) ?_
      refine r_icmp_geN (tgt := 156) hx hb dL_holds_116 (by decide) (by omega) (by omega) (fun c_116 => ?_) (fun c_116 => ?_)
      · refine lv_iload hx hb dL_holds_156 (lv_at hl 2 rfl) ?_
        refine lv_bipush (v := nI 12) hx hb dL_holds_158 (by decide) ?_
        refine r_icmp_geN (tgt := 199) hx hb dL_holds_160 (by decide) (by omega) (by omega) (fun c_160 => ?_) (fun c_160 => ?_)
        · refine lv_iload hx hb dL_holds_199 (lv_at hl 2 rfl) ?_
          refine lv_bipush (v := nI 20) hx hb dL_holds_201 (by decide) ?_
          refine r_icmp_geN (tgt := 261) hx hb dL_holds_203 (by decide) (by omega) (by omega) (fun c_203 => ?_) (fun c_203 => ?_)
          · refine lv_iload hx hb dL_holds_261 (lv_at hl 2 rfl) ?_
            refine lv_bipush (v := nI 26) hx hb dL_holds_263 (by decide) ?_
            refine r_icmp_geN (tgt := 295) hx hb dL_holds_265 (by decide) (by omega) (by omega) (fun c_265 => ?_) (fun c_265 => ?_)
            · refine lv_iload hx hb dL_holds_295 (lv_at hl 2 rfl) ?_
              refine lv_bipush (v := nI 29) hx hb dL_holds_297 (by decide) ?_
              refine r_icmp_geN (tgt := 336) hx hb dL_holds_299 (by decide) (by omega) (by omega) (fun c_299 => ?_) (fun c_299 => ?_)
              · refine lv_iload hx hb dL_holds_336 (lv_at hl 2 rfl) ?_
                refine lv_bipush (v := nI 29) hx hb dL_holds_338 (by decide) ?_
                refine r_icmp_neN (tgt := 370) hx hb dL_holds_340 (by decide) (by omega) (by omega) (fun c_340 => ?_) (fun c_340 => ?_)
                · refine lv_iload hx hb dL_holds_370 (lv_at hl 2 rfl) ?_
                  refine lv_bipush (v := nI 30) hx hb dL_holds_372 (by decide) ?_
                  refine r_icmp_neN (tgt := 410) hx hb dL_holds_374 (by decide) (by omega) (by omega) (fun c_374 => ?_) (fun c_374 => ?_)
                  · exact J_410 H locs ls _ _ (hP.mono (by omega)) hS (lv_sub hl [3, 4, 5, 6, 7, 8, 9, 10, 11, 12, 13, 1] rfl) (by (try dsimp only); omega) (by (try dsimp only); omega)
                  · obtain ⟨κ, σ, τ, hW, hR, hJ⟩ := hP
                    have hG : PW D cI cZ cO vdom L σ (vim L) H := hW.g
                    have hN5 : σ.2.2.1 905 0 0 = 11 := hJ.1.2.2
                    refine lv_aload hx hb dL_holds_377 (lv_at hl 11 rfl) ?_
                    refine lv_bipush (v := nI 10) hx hb dL_holds_379 (by decide) ?_
                    refine pw_ald8 X hK hG 905 fa_905 (vd_1 (by decide)) (i := 10) (N := σ.2.2.1 905 0 0) (x := σ.2.2.2 905 0 10) rfl (by omega) (by omega) rfl dL_holds_381 ?_
                    refine lv_if_ne (tgt := 410) hx hb dL_holds_382 (by decide) (fun c_382 => ?_) (fun c_382 => ?_)
                    · exact J_410 H locs ls _ _ (⟨κ, σ, τ, hW, hR, hJ.mono (by omega)⟩) hS (lv_sub hl [3, 4, 5, 6, 7, 8, 9, 10, 11, 12, 13, 1] rfl) (by (try dsimp only); omega) (by (try dsimp only); omega)
                    · refine lv_aload_n hx hb dL_holds_385 rfl (lv_at hl 4 rfl) ?_
                      refine lv_aload hx hb dL_holds_386 (lv_at hl 7 rfl) ?_
                      refine lv_iload hx hb dL_holds_388 (lv_at hl 1 rfl) ?_
                      refine lv_iconst (v := nI 3) hx hb dL_holds_390 (by decide) ?_
                      refine r_remN hx hb (by omega) (by decide) (by decide) dL_holds_391 ?_
                      refine lv_iload hx hb dL_holds_392 (lv_at hl 1 rfl) ?_
                      refine lv_iconst (v := nI 3) hx hb dL_holds_394 (by decide) ?_
                      refine r_divN hx hb (by omega) (by decide) (by decide) dL_holds_395 ?_
                      refine lv_iconst (v := nI 2) hx hb dL_holds_396 (by decide) ?_
                      refine r_remN hx hb (by omega) (by decide) (by decide) dL_holds_397 ?_
                      refine lv_iload hx hb dL_holds_398 (lv_at hl 1 rfl) ?_
                      refine lv_bipush (v := nI 6) hx hb dL_holds_400 (by decide) ?_
                      refine r_divN hx hb (by omega) (by decide) (by decide) dL_holds_402 ?_
                      refine lv_iconst (v := nI 2) hx hb dL_holds_403 (by decide) ?_
                      refine r_remN hx hb (by omega) (by decide) (by decide) dL_holds_404 ?_
                      have gq := hJ.2.1.1 (zz % 3) (by omega)
                      obtain ⟨k9, hk9, hk13⟩ : ∃ k9, σ.2.2.2 901 0 (36 + zz % 3) = nI k9 ∧ k9 < 13 := ⟨_, ix_eq gq.1, ix_lt gq.1⟩
                      by_cases hk12 : k9 < 12
                      · refine r_top (y := nI (zz / 6 % 2 + 16) - nI 16) add16 ?_
                        refine vi_call X hK hE hX (P := VB9 D cI cZ cO t0 z0 x9 L (500 * n9) 3 σ) (P' := VB9 D cI cZ cO t0 z0 x9 L (500 * n9) 3 (h_bw (zz % 3) k9 (zz / 3 % 2) (zz / 6 % 2 + 16) σ)) (⟨κ, τ, hW, hR, hJ.jx⟩) (Nat.le_trans hz hS.1) hS ysL_isBlock ml_L_120 [.ref x9, .ref (L 901 0), .int (nI (zz % 3)), .int (nI ((zz / 3) % 2)), .int (nI (zz / 6 % 2 + 16) - nI 16)] [] (v_L_isBlock (D := D) (cI := cI) (cZ := cZ) (cO := cO) (t0 := t0) (mi := mi) (z0 := z0) (x9 := x9) (L := L) l hl9 (500 * n9) 3 (zz % 3) k9 (zz / 3 % 2) (zz / 6 % 2 + 16) σ (by omega) (by decide) hk12 (by omega) (by omega) hk9 c_382 (isb_0 (by omega) (by omega) (by omega))) rfl hl.1 rfl (Nat.le_of_ble_eq_true rfl) ⟨Nat.le_of_ble_eq_true rfl, Nat.le_of_ble_eq_true rfl⟩ ⟨by (try dsimp only); omega, by (try dsimp only); omega⟩ dL_holds_405 (fun H locs hP hS => ?_)
                        obtain ⟨κ, τ, hW, hR, hJ2⟩ := hP
                        have hP : VQ D cI cZ cO t0 z0 x9 L (500 * n9) H := ⟨κ, _, τ, hW, hR, hJ2.jj (hJ.2.1.1.bw (by omega) hk12 hk9 (by omega) (by omega))⟩
                        refine lv_istore (lv' := [(9, .int (nI 1)), (13, .int (nI (zz % 2))), (12, .int (nI zz)), (11, .int (nI wy)), (0, .ref b), (1, .ref x9), (2, .ref (L 900 0)), (3, .ref (L 900 1)), (4, .ref (L 901 0)), (5, .ref (L 902 0)), (6, .ref (L 903 0)), (7, .ref (L 904 0)), (8, .ref (L 905 0)), (10, .int (nI n9))]) hx hb dL_holds_408 hl (by decide) rfl (fun ls hl => ?_)
                        exact J_410 H locs ls _ _ (hP.mono (by omega)) hS (lv_sub hl [4, 5, 6, 7, 8, 9, 10, 11, 12, 0, 13, 2] rfl) (by (try dsimp only); omega) (by (try dsimp only); omega)
                      · refine vi_call X hK hE hX (P := VB9 D cI cZ cO t0 z0 x9 L (500 * n9) 3 σ) (P' := VB9 D cI cZ cO t0 z0 x9 L (500 * n9) 3 σ) (⟨κ, τ, hW, hR, hJ.jx⟩) (Nat.le_trans hz hS.1) hS ysL_isBlock ml_L_120 [.ref x9, .ref (L 901 0), .int (nI (zz % 3)), .int (nI ((zz / 3) % 2)), .int (nI ((zz / 6) % 2))] [] (v_L_isBlockF (D := D) (cI := cI) (cZ := cZ) (cO := cO) (t0 := t0) (mi := mi) (z0 := z0) (x9 := x9) (L := L) l (500 * n9) 3 (zz % 3) (zz / 3 % 2) (zz / 6 % 2) σ (by omega) (hk9.trans (congrArg nI (by omega)))) rfl hl.1 rfl (Nat.le_of_ble_eq_true rfl) ⟨Nat.le_of_ble_eq_true rfl, Nat.le_of_ble_eq_true rfl⟩ ⟨by (try dsimp only); omega, by (try dsimp only); omega⟩ dL_holds_405 (fun H locs hP hS => ?_)
                        obtain ⟨κ, τ, hW, hR, hJ2⟩ := hP
                        have hP : VQ D cI cZ cO t0 z0 x9 L (500 * n9) H := ⟨κ, σ, τ, hW, hR, hJ2.jj hJ.2.1.1⟩
                        refine lv_istore (lv' := [(9, .int (nI 1)), (13, .int (nI (zz % 2))), (12, .int (nI zz)), (11, .int (nI wy)), (0, .ref b), (1, .ref x9), (2, .ref (L 900 0)), (3, .ref (L 900 1)), (4, .ref (L 901 0)), (5, .ref (L 902 0)), (6, .ref (L 903 0)), (7, .ref (L 904 0)), (8, .ref (L 905 0)), (10, .int (nI n9))]) hx hb dL_holds_408 hl (by decide) rfl (fun ls hl => ?_)
                        exact J_410 H locs ls _ _ (hP.mono (by omega)) hS (lv_sub hl [4, 5, 6, 7, 8, 9, 10, 11, 12, 0, 13, 2] rfl) (by (try dsimp only); omega) (by (try dsimp only); omega)
                · refine lv_aload_n hx hb dL_holds_343 rfl (lv_at hl 4 rfl) ?_
                  refine r_cutV (P := fun H => VQ D cI cZ cO t0 z0 x9 L (500 * n9) H) 354 [.ref (L 900 (zz % 2)), .ref x9] hP hS (fun H locs hP hS => ?_) (fun J_354 => ?_)
                  · have hP : VQ D cI cZ cO t0 z0 x9 L (500 * n9) H := hP
                    refine lv_aload hx hb dL_holds_354 (lv_at hl 11 rfl) ?_
                    refine lv_iload hx hb dL_holds_356 (lv_at hl 0 rfl) ?_
                    refine lv_iload hx hb dL_holds_358 (lv_at hl 1 rfl) ?_
                    refine lv_iconst (v := nI 2) hx hb dL_holds_360 (by decide) ?_
                    refine r_divN hx hb (by omega) (by decide) (by decide) dL_holds_361 ?_
                    refine vi_call X hK hE hX (P := VQ D cI cZ cO t0 z0 x9 L (500 * n9)) (P' := VQ D cI cZ cO t0 z0 x9 L (500 * n9)) (hP) (Nat.le_trans hz hS.1) hS ysL_isClamp ml_L_196 [.ref x9, .ref (L 900 (zz % 2)), .ref (L 905 0), .int (nI (zz % 2)), .int (nI (zz / 2))] [] (v_L_isClamp (D := D) (cI := cI) (cZ := cZ) (cO := cO) (t0 := t0) (mi := mi) (z0 := z0) (x9 := x9) (L := L) l hl9 (500 * n9) (zz % 2) (zz / 2) (by omega) (by omega)) rfl hl.1 rfl (Nat.le_of_ble_eq_true rfl) ⟨Nat.le_of_ble_eq_true rfl, Nat.le_of_ble_eq_true rfl⟩ ⟨by (try dsimp only); omega, by (try dsimp only); omega⟩ dL_holds_362 (fun H locs hP hS => ?_)
                    refine lv_istore (lv' := [(9, .int (nI 1)), (13, .int (nI (zz % 2))), (12, .int (nI zz)), (11, .int (nI wy)), (0, .ref b), (1, .ref x9), (2, .ref (L 900 0)), (3, .ref (L 900 1)), (4, .ref (L 901 0)), (5, .ref (L 902 0)), (6, .ref (L 903 0)), (7, .ref (L 904 0)), (8, .ref (L 905 0)), (10, .int (nI n9))]) hx hb dL_holds_365 hl (by decide) rfl (fun ls hl => ?_)
                    refine lv_goto (tgt := 410) hx hb dL_holds_367 (by decide) ?_
                    exact J_410 H locs ls _ _ (hP.mono (by omega)) hS (lv_sub hl [4, 5, 6, 7, 8, 9, 10, 11, 12, 0, 13, 2] rfl) (by (try dsimp only); omega) (by (try dsimp only); omega)
                  · refine lv_iload hx hb dL_holds_344 (lv_at hl 0 rfl) ?_
                    refine r_if_neN (tgt := 353) hx hb dL_holds_346 (by decide) (by omega) (fun c_346 => ?_) (fun c_346 => ?_)
                    · refine lv_aload_n hx hb dL_holds_353 rfl (lv_at hl 6 rfl) ?_
                      exact r_topR (congrArg (L 900) (by omega)) (J_354 _ _ hP hS)
                    · refine lv_aload_n hx hb dL_holds_349 rfl (lv_at hl 5 rfl) ?_
                      refine lv_goto (tgt := 354) hx hb dL_holds_350 (by decide) ?_
                      exact r_topR (congrArg (L 900) (by omega)) (J_354 _ _ hP hS)
              · obtain ⟨κ, σ, τ, hW, hR, hJ⟩ := hP
                have hq9 := Q_correct (D := D) (cI := cI) (cZ := cZ) (cO := cO) (t0 := t0) (mi := mi) (l := l) hl9 hR hJ (t := zz % 4) (by omega)
                have hM9 := c_L_corrected (D := D) (cI := cI) (cZ := cZ) (cO := cO) (dom := vdom) l L σ (vim L) 0 (zz % 4) (by omega) hd_c ⟨by rw [hJ.1.1]; decide, by rw [hJ.1.1]; decide⟩
                generalize h_cor 0 (zz % 4) σ = Z9 at hq9 hM9
                refine lv_aload hx hb dL_holds_302 (lv_at hl 8 rfl) ?_
                refine lv_iload hx hb dL_holds_304 (lv_at hl 1 rfl) ?_
                refine lv_iconst (v := nI 4) hx hb dL_holds_306 (by decide) ?_
                refine r_remN hx hb (by omega) (by decide) (by decide) dL_holds_307 ?_
                refine v_callS X hK hW hS ysL_corrected ml_L_190 [.ref (L 902 0), .int (nI (zz % 4))] [] (hM9) rfl hl.1 rfl (Nat.le_of_ble_eq_true rfl) ⟨Nat.le_of_ble_eq_true rfl, Nat.le_of_ble_eq_true rfl⟩ ⟨by (try dsimp only); omega, by (try dsimp only); omega⟩ dL_holds_308 (fun H locs hW hS => ?_)
                refine lv_istore (lv' := [(14, .int Z9.1), (13, .int (nI (zz % 2))), (12, .int (nI zz)), (11, .int (nI wy)), (0, .ref b), (1, .ref x9), (2, .ref (L 900 0)), (3, .ref (L 900 1)), (4, .ref (L 901 0)), (5, .ref (L 902 0)), (6, .ref (L 903 0)), (7, .ref (L 904 0)), (8, .ref (L 905 0)), (9, .int (nI 1)), (10, .int (nI n9))]) hx hb dL_holds_311 hl (by decide) rfl (fun ls hl => ?_)
                refine lv_aload_n hx hb dL_holds_313 rfl (lv_at hl 5 rfl) ?_
                refine lv_iload hx hb dL_holds_314 (lv_at hl 2 rfl) ?_
                refine lv_iconst (v := nI 4) hx hb dL_holds_316 (by decide) ?_
                refine r_remN hx hb (by omega) (by decide) (by decide) dL_holds_317 ?_
                refine v_oq X hK hE hX hW hS yvX8_correct ml_L_193 [.int (nI (zz % 4))] [] (hq9) rfl hl.1 rfl (Nat.le_of_ble_eq_true rfl) ⟨Nat.le_of_ble_eq_true rfl, Nat.le_of_ble_eq_true rfl⟩ ⟨by (try dsimp only); omega, by (try dsimp only); omega⟩ dL_holds_318 (fun κ τ H locs hW hR hJ hS => ?_)
                refine lv_iload hx hb dL_holds_321 (lv_at hl 0 rfl) ?_
                refine lv_icmp_ne (tgt := 330) hx hb dL_holds_323 (by decide) (fun c_323 => absurd rfl c_323) (fun c_323 => ?_)
                refine lv_iconst (v := nI 1) hx hb dL_holds_326 (by decide) ?_
                refine lv_goto (tgt := 331) hx hb dL_holds_327 (by decide) ?_
                refine lv_istore (lv' := [(9, .int (nI 1)), (14, .int Z9.1), (13, .int (nI (zz % 2))), (12, .int (nI zz)), (11, .int (nI wy)), (0, .ref b), (1, .ref x9), (2, .ref (L 900 0)), (3, .ref (L 900 1)), (4, .ref (L 901 0)), (5, .ref (L 902 0)), (6, .ref (L 903 0)), (7, .ref (L 904 0)), (8, .ref (L 905 0)), (10, .int (nI n9))]) hx hb dL_holds_331 hl (by decide) rfl (fun ls hl => ?_)
                refine lv_goto (tgt := 410) hx hb dL_holds_333 (by decide) ?_
                exact J_410 H locs ls _ _ (⟨κ, Z9.2, τ, hW, hR, hJ.mono (by omega)⟩) hS (lv_sub hl [5, 6, 7, 8, 9, 10, 11, 12, 13, 0, 14, 3] rfl) (by (try dsimp only); omega) (by (try dsimp only); omega)
            · refine lv_aload_n hx hb dL_holds_268 rfl (lv_at hl 4 rfl) ?_
              refine r_cutV (P := fun H => VQ D cI cZ cO t0 z0 x9 L (500 * n9) H) 279 [.ref (L 900 (zz % 2)), .ref x9] hP hS (fun H locs hP hS => ?_) (fun J_279 => ?_)
              · have hP : VQ D cI cZ cO t0 z0 x9 L (500 * n9) H := hP
                refine lv_aload hx hb dL_holds_279 (lv_at hl 8 rfl) ?_
                refine lv_aload hx hb dL_holds_281 (lv_at hl 9 rfl) ?_
                refine lv_aload hx hb dL_holds_283 (lv_at hl 11 rfl) ?_
                refine lv_iload hx hb dL_holds_285 (lv_at hl 0 rfl) ?_
                refine vi_call X hK hE hX (P := VQ D cI cZ cO t0 z0 x9 L (500 * n9)) (P' := VQ D cI cZ cO t0 z0 x9 L (500 * n9)) (hP) (Nat.le_trans hz hS.1) hS ysL_isJudged ml_L_186 [.ref x9, .ref (L 900 (zz % 2)), .ref (L 902 0), .ref (L 903 0), .ref (L 905 0), .int (nI (zz % 2))] [] (v_L_isJudged (D := D) (cI := cI) (cZ := cZ) (cO := cO) (t0 := t0) (mi := mi) (z0 := z0) (x9 := x9) (L := L) l hl9 (500 * n9) (zz % 2) (by omega) (by omega)) rfl hl.1 rfl (Nat.le_of_ble_eq_true rfl) ⟨Nat.le_of_ble_eq_true rfl, Nat.le_of_ble_eq_true rfl⟩ ⟨by (try dsimp only); omega, by (try dsimp only); omega⟩ dL_holds_287 (fun H locs hP hS => ?_)
                refine lv_istore (lv' := [(9, .int (nI 1)), (13, .int (nI (zz % 2))), (12, .int (nI zz)), (11, .int (nI wy)), (0, .ref b), (1, .ref x9), (2, .ref (L 900 0)), (3, .ref (L 900 1)), (4, .ref (L 901 0)), (5, .ref (L 902 0)), (6, .ref (L 903 0)), (7, .ref (L 904 0)), (8, .ref (L 905 0)), (10, .int (nI n9))]) hx hb dL_holds_290 hl (by decide) rfl (fun ls hl => ?_)
                refine lv_goto (tgt := 410) hx hb dL_holds_292 (by decide) ?_
                exact J_410 H locs ls _ _ (hP.mono (by omega)) hS (lv_sub hl [4, 5, 6, 7, 8, 9, 10, 11, 12, 0, 13, 2] rfl) (by (try dsimp only); omega) (by (try dsimp only); omega)
              · refine lv_iload hx hb dL_holds_269 (lv_at hl 0 rfl) ?_
                refine r_if_neN (tgt := 278) hx hb dL_holds_271 (by decide) (by omega) (fun c_271 => ?_) (fun c_271 => ?_)
                · refine lv_aload_n hx hb dL_holds_278 rfl (lv_at hl 6 rfl) ?_
                  exact r_topR (congrArg (L 900) (by omega)) (J_279 _ _ hP hS)
                · refine lv_aload_n hx hb dL_holds_274 rfl (lv_at hl 5 rfl) ?_
                  refine lv_goto (tgt := 279) hx hb dL_holds_275 (by decide) ?_
                  exact r_topR (congrArg (L 900) (by omega)) (J_279 _ _ hP hS)
          · refine lv_aload_n hx hb dL_holds_206 rfl (lv_at hl 4 rfl) ?_
            refine lv_aload hx hb dL_holds_207 (lv_at hl 8 rfl) ?_
            refine lv_aload hx hb dL_holds_209 (lv_at hl 9 rfl) ?_
            refine r_cutV (P := fun H => VQ D cI cZ cO t0 z0 x9 L (500 * n9) H) 251 [.int (nI (if wy < 14 then 0 else if wy < 16 then 4 else if 3 < wy - 15 then 2 else wy - 15)), .ref (L 903 0), .ref (L 902 0), .ref x9] hP hS (fun H locs hP hS => ?_) (fun J_251 => ?_)
            · have hP : VQ D cI cZ cO t0 z0 x9 L (500 * n9) H := hP
              obtain ⟨w9, hw9e, hw9⟩ : ∃ w, w = (if wy < 14 then 0 else if wy < 16 then 4 else if 3 < wy - 15 then 2 else wy - 15) ∧ w < 5 := ⟨_, rfl, by (repeat' split) <;> omega⟩
              refine r_top (y := nI w9) (congrArg nI hw9e.symm) ?_
              refine lv_iload hx hb dL_holds_251 (lv_at hl 1 rfl) ?_
              refine vi_call X hK hE hX (P := VQ D cI cZ cO t0 z0 x9 L (500 * n9)) (P' := VQ D cI cZ cO t0 z0 x9 L (500 * n9 + 500)) (hP) (Nat.le_trans hz hS.1) hS ysL_isTold ml_L_182 [.ref x9, .ref (L 902 0), .ref (L 903 0), .int (nI w9), .int (nI zz)] [] (v_L_isTold (D := D) (cI := cI) (cZ := cZ) (cO := cO) (t0 := t0) (mi := mi) (z0 := z0) (x9 := x9) (L := L) l hl9 (500 * n9) w9 zz (by omega) hw9 (by omega)) rfl hl.1 rfl (Nat.le_of_ble_eq_true rfl) ⟨Nat.le_of_ble_eq_true rfl, Nat.le_of_ble_eq_true rfl⟩ ⟨by (try dsimp only); omega, by (try dsimp only); omega⟩ dL_holds_253 (fun H locs hP hS => ?_)
              refine lv_istore (lv' := [(9, .int (nI 1)), (13, .int (nI (zz % 2))), (12, .int (nI zz)), (11, .int (nI wy)), (0, .ref b), (1, .ref x9), (2, .ref (L 900 0)), (3, .ref (L 900 1)), (4, .ref (L 901 0)), (5, .ref (L 902 0)), (6, .ref (L 903 0)), (7, .ref (L 904 0)), (8, .ref (L 905 0)), (10, .int (nI n9))]) hx hb dL_holds_256 hl (by decide) rfl (fun ls hl => ?_)
              refine lv_goto (tgt := 410) hx hb dL_holds_258 (by decide) ?_
              exact J_410 H locs ls _ _ (hP) hS (lv_sub hl [4, 5, 6, 7, 8, 9, 10, 11, 12, 0, 13, 2] rfl) (by (try dsimp only); omega) (by (try dsimp only); omega)
            · refine lv_iload hx hb dL_holds_211 (lv_at hl 2 rfl) ?_
              refine lv_bipush (v := nI 14) hx hb dL_holds_213 (by decide) ?_
              refine r_icmp_geN (tgt := 222) hx hb dL_holds_215 (by decide) (by omega) (by omega) (fun c_215 => ?_) (fun c_215 => ?_)
              · refine lv_iload hx hb dL_holds_222 (lv_at hl 2 rfl) ?_
                refine lv_bipush (v := nI 16) hx hb dL_holds_224 (by decide) ?_
                refine r_icmp_geN (tgt := 233) hx hb dL_holds_226 (by decide) (by omega) (by omega) (fun c_226 => ?_) (fun c_226 => ?_)
                · refine lv_iload hx hb dL_holds_233 (lv_at hl 2 rfl) ?_
                  refine lv_bipush (v := nI 15) hx hb dL_holds_235 (by decide) ?_
                  refine r_subN hx hb (by omega) dL_holds_237 ?_
                  refine lv_iconst (v := nI 3) hx hb dL_holds_238 (by decide) ?_
                  refine r_icmp_leN (tgt := 246) hx hb dL_holds_239 (by decide) (by omega) (by omega) (fun c_239 => ?_) (fun c_239 => ?_)
                  · refine lv_iload hx hb dL_holds_246 (lv_at hl 2 rfl) ?_
                    refine lv_bipush (v := nI 15) hx hb dL_holds_248 (by decide) ?_
                    refine r_subN hx hb (by omega) dL_holds_250 ?_
                    exact r_top (congrArg nI (by (repeat' split) <;> omega)) (J_251 _ _ hP hS)
                  · refine lv_iconst (v := nI 2) hx hb dL_holds_242 (by decide) ?_
                    refine lv_goto (tgt := 251) hx hb dL_holds_243 (by decide) ?_
                    exact r_top (congrArg nI (by (repeat' split) <;> omega)) (J_251 _ _ hP hS)
                · refine lv_iconst (v := nI 4) hx hb dL_holds_229 (by decide) ?_
                  refine lv_goto (tgt := 251) hx hb dL_holds_230 (by decide) ?_
                  exact r_top (congrArg nI (by (repeat' split) <;> omega)) (J_251 _ _ hP hS)
              · refine lv_iconst (v := nI 0) hx hb dL_holds_218 (by decide) ?_
                refine lv_goto (tgt := 251) hx hb dL_holds_219 (by decide) ?_
                exact r_top (congrArg nI (by (repeat' split) <;> omega)) (J_251 _ _ hP hS)
        · obtain ⟨κ, σ, τ, hW, hR, hJ⟩ := hP
          have hq9 := Q_night (D := D) (cI := cI) (cZ := cZ) (cO := cO) (t0 := t0) (mi := mi) (l := l) hR hJ
          have hM9 := c_L_night (D := D) (cI := cI) (cZ := cZ) (cO := cO) (dom := vdom) l L σ (vim L) 0 1 0 0 0 hd_n (j_NI hJ)
          generalize h_night 0 1 0 0 0 σ = Z9 at hq9 hM9
          refine lv_aload_n hx hb dL_holds_163 rfl (lv_at hl 5 rfl) ?_
          refine lv_aload_n hx hb dL_holds_164 rfl (lv_at hl 6 rfl) ?_
          refine lv_aload hx hb dL_holds_165 (lv_at hl 7 rfl) ?_
          refine lv_aload hx hb dL_holds_167 (lv_at hl 8 rfl) ?_
          refine lv_aload hx hb dL_holds_169 (lv_at hl 9 rfl) ?_
          refine lv_aload hx hb dL_holds_171 (lv_at hl 10 rfl) ?_
          refine lv_aload hx hb dL_holds_173 (lv_at hl 11 rfl) ?_
          refine v_callS X hK hW hS ysL_night ml_L_45 [.ref (L 900 0), .ref (L 900 1), .ref (L 901 0), .ref (L 902 0), .ref (L 903 0), .ref (L 904 0), .ref (L 905 0)] [] (hM9) rfl hl.1 rfl (Nat.le_of_ble_eq_true rfl) ⟨Nat.le_of_ble_eq_true rfl, Nat.le_of_ble_eq_true rfl⟩ ⟨by (try dsimp only); omega, by (try dsimp only); omega⟩ dL_holds_175 (fun H locs hW hS => ?_)
          refine lv_istore (lv' := [(14, .int (nI Z9.1)), (13, .int (nI (zz % 2))), (12, .int (nI zz)), (11, .int (nI wy)), (0, .ref b), (1, .ref x9), (2, .ref (L 900 0)), (3, .ref (L 900 1)), (4, .ref (L 901 0)), (5, .ref (L 902 0)), (6, .ref (L 903 0)), (7, .ref (L 904 0)), (8, .ref (L 905 0)), (9, .int (nI 1)), (10, .int (nI n9))]) hx hb dL_holds_178 hl (by decide) rfl (fun ls hl => ?_)
          refine lv_aload_n hx hb dL_holds_180 rfl (lv_at hl 5 rfl) ?_
          refine v_oqX X hK hE hW hS yvX8_night ml_L_180 [] [] (hq9) rfl hl.1 rfl (Nat.le_of_ble_eq_true rfl) ⟨Nat.le_of_ble_eq_true rfl, Nat.le_of_ble_eq_true rfl⟩ ⟨by (try dsimp only); omega, by (try dsimp only); omega⟩ dL_holds_181 (fun κ τ H locs hW hR hJ hS => ?_)
          refine lv_iload hx hb dL_holds_184 (lv_at hl 0 rfl) ?_
          refine lv_icmp_ne (tgt := 193) hx hb dL_holds_186 (by decide) (fun c_186 => absurd rfl c_186) (fun c_186 => ?_)
          refine lv_iconst (v := nI 1) hx hb dL_holds_189 (by decide) ?_
          refine lv_goto (tgt := 194) hx hb dL_holds_190 (by decide) ?_
          refine lv_istore (lv' := [(9, .int (nI 1)), (14, .int (nI Z9.1)), (13, .int (nI (zz % 2))), (12, .int (nI zz)), (11, .int (nI wy)), (0, .ref b), (1, .ref x9), (2, .ref (L 900 0)), (3, .ref (L 900 1)), (4, .ref (L 901 0)), (5, .ref (L 902 0)), (6, .ref (L 903 0)), (7, .ref (L 904 0)), (8, .ref (L 905 0)), (10, .int (nI n9))]) hx hb dL_holds_194 hl (by decide) rfl (fun ls hl => ?_)
          refine lv_goto (tgt := 410) hx hb dL_holds_196 (by decide) ?_
          exact J_410 H locs ls _ _ (⟨κ, Z9.2, τ, hW, hR, hJ.mono (by omega)⟩) hS (lv_sub hl [5, 6, 7, 8, 9, 10, 11, 12, 13, 0, 14, 3] rfl) (by (try dsimp only); omega) (by (try dsimp only); omega)
      · refine lv_aload_n hx hb dL_holds_119 rfl (lv_at hl 4 rfl) ?_
        refine r_cutV (P := fun H => VQ D cI cZ cO t0 z0 x9 L (500 * n9) H) 130 [.ref (L 900 (zz % 2)), .ref x9] hP hS (fun H locs hP hS => ?_) (fun J_130 => ?_)
        · have hP : VQ D cI cZ cO t0 z0 x9 L (500 * n9) H := hP
          refine lv_aload hx hb dL_holds_130 (lv_at hl 7 rfl) ?_
          refine lv_aload hx hb dL_holds_132 (lv_at hl 8 rfl) ?_
          refine lv_aload hx hb dL_holds_134 (lv_at hl 9 rfl) ?_
          refine lv_aload hx hb dL_holds_136 (lv_at hl 10 rfl) ?_
          refine lv_aload hx hb dL_holds_138 (lv_at hl 11 rfl) ?_
          refine lv_iload hx hb dL_holds_140 (lv_at hl 0 rfl) ?_
          refine lv_iload hx hb dL_holds_142 (lv_at hl 1 rfl) ?_
          refine lv_iconst (v := nI 2) hx hb dL_holds_144 (by decide) ?_
          refine r_divN hx hb (by omega) (by decide) (by decide) dL_holds_145 ?_
          refine lv_iconst (v := nI 3) hx hb dL_holds_146 (by decide) ?_
          refine r_remN hx hb (by omega) (by decide) (by decide) dL_holds_147 ?_
          refine vi_call X hK hE hX (P := VQ D cI cZ cO t0 z0 x9 L (500 * n9)) (P' := VQ D cI cZ cO t0 z0 x9 L (500 * n9)) (hP) (Nat.le_trans hz hS.1) hS ysL_isPlanned ml_L_176 [.ref x9, .ref (L 900 (zz % 2)), .ref (L 901 0), .ref (L 902 0), .ref (L 903 0), .ref (L 904 0), .ref (L 905 0), .int (nI (zz % 2)), .int (nI ((zz / 2) % 3))] [] (v_L_isPlanned (D := D) (cI := cI) (cZ := cZ) (cO := cO) (t0 := t0) (mi := mi) (z0 := z0) (x9 := x9) (L := L) l hl9 (500 * n9) (zz % 2) (zz / 2 % 3) (by omega) (by omega)) rfl hl.1 rfl (Nat.le_of_ble_eq_true rfl) ⟨Nat.le_of_ble_eq_true rfl, Nat.le_of_ble_eq_true rfl⟩ ⟨by (try dsimp only); omega, by (try dsimp only); omega⟩ dL_holds_148 (fun H locs hP hS => ?_)
          refine lv_istore (lv' := [(9, .int (nI 1)), (13, .int (nI (zz % 2))), (12, .int (nI zz)), (11, .int (nI wy)), (0, .ref b), (1, .ref x9), (2, .ref (L 900 0)), (3, .ref (L 900 1)), (4, .ref (L 901 0)), (5, .ref (L 902 0)), (6, .ref (L 903 0)), (7, .ref (L 904 0)), (8, .ref (L 905 0)), (10, .int (nI n9))]) hx hb dL_holds_151 hl (by decide) rfl (fun ls hl => ?_)
          refine lv_goto (tgt := 410) hx hb dL_holds_153 (by decide) ?_
          exact J_410 H locs ls _ _ (hP.mono (by omega)) hS (lv_sub hl [4, 5, 6, 7, 8, 9, 10, 11, 12, 0, 13, 2] rfl) (by (try dsimp only); omega) (by (try dsimp only); omega)
        · refine lv_iload hx hb dL_holds_120 (lv_at hl 0 rfl) ?_
          refine r_if_neN (tgt := 129) hx hb dL_holds_122 (by decide) (by omega) (fun c_122 => ?_) (fun c_122 => ?_)
          · refine lv_aload_n hx hb dL_holds_129 rfl (lv_at hl 6 rfl) ?_
            exact r_topR (congrArg (L 900) (by omega)) (J_130 _ _ hP hS)
          · refine lv_aload_n hx hb dL_holds_125 rfl (lv_at hl 5 rfl) ?_
            refine lv_goto (tgt := 130) hx hb dL_holds_126 (by decide) ?_
            exact r_topR (congrArg (L 900) (by omega)) (J_130 _ _ hP hS)
