/-! the shop's constructor -/
def k_gau : Nat → St
  | 0 => σz
  | n + 1 => ladd 3 n (i_1 n (k_gau n))
theorem gau_3 : ∀ n, (k_gau n).1 1002 3 = n
  | 0 => rfl
  | n + 1 => by
    show (ladd 3 n (i_1 n (k_gau n))).1 1002 3 = _
    rw [ladd_N, (i_1_off (k := n) (σ := k_gau n) 1002 3 (by omega)).1.1, gau_3 n]
theorem gau_ci : ∀ n, n ≤ 4 → CI (k_gau n)
  | 0, _ => ci_z
  | n + 1, h => ci_new (C := 1) (j := 3) (gau_ci n (by omega)) (by decide) i_1_off (by decide) rfl (gau_3 n).symm (by rw [gau_3]; omega)
section GAU
variable {D : va_G} {cI cZ cO : ClassId} {t0 mi : Nat} {A : Nat → Prop} {H : Heap} {L : Lay} {ow : Nat → Prop}
variable {p : Program} {l : Launch} {e : Env} {R : Room} {s : State} {m : MethodId} {args : Array Value} {below : List Frame} {meth : Method} {c : Code} {locs : List Loc} {cells slots : Nat} {Q : State → Prop} {ls : Array Slot}
set_option maxRecDepth 100000 in
set_option maxHeartbeats 8000000 in
theorem g_round (X : CallFix p m c cX8_init 2 s args TB RX8) (hK : KK D cI cZ cO s) (hE : EE t0 mi A s s.heap) (hX9 : EX A s s.heap) {n : Nat} (hn : n < 4) (hC : CW D cI cZ cO t0 L (k_gau n) ow H) (hO : ∀ q, ow q → A q) (hN : ∀ q, s.heap.size ≤ q → A q) (hS : va_S A s.heap H locs) {a : Nat} (ha0 : L 899 0 = a) (hl : lv_has ls 2 [(1, .int (nI n)), (0, .ref a)]) (hR : 10 ≤ R.frames ∧ 300 ≤ R.locals) (hc : cells + 2 ≤ R.cells ∧ slots + 62 ≤ R.slots)
    (kk : ∀ (L3 : Lay) (ow3 : Nat → Prop) (H1 : Heap) (locs1 : List Loc) (ls1 : Array Slot), L3 899 0 = a → CW D cI cZ cO t0 L3 (k_gau (n + 1)) ow3 H1 → (∀ q, ow3 q → A q) → va_S A s.heap H1 locs1 → lv_has ls1 2 [(1, .int (nI (n + 1))), (0, .ref a)] → W p l e R s m args below meth c H1 locs1 (cells + 2) (slots + 62) Q (F0 m 116 ls1 [])) : W p l e R s m args below meth c H locs cells slots Q (F0 m 116 ls []) := by
  have hx := X.1
  have hb := X.2.1
  subst ha0
  refine lv_iload_n hx hb dX8_init_116 rfl (lv_at hl 0 rfl) ?_
  refine lv_iconst (v := nI 4) hx hb dX8_init_117 (by decide) ?_
  refine r_icmp_geN (tgt := 142) hx hb dX8_init_118 (by decide) (by omega) (by omega) (fun c9 => absurd c9 (by omega)) (fun _ => ?_)
  have hI := gau_ci n (by omega)
  have h3 := gau_3 n
  have hkg : k_gau (n + 1) = ladd 3 n (i_1 n (k_gau n)) := rfl
  rw [hkg] at kk
  generalize k_gau n = σ at hC hI h3 kk
  have hG := hC.1
  refine lv_aload_n hx hb dX8_init_121 rfl (lv_at hl 1 rfl) ?_
  refine gt_X8_22 X hK hG (cd_fix (by decide)) dX8_init_122 ?_
  obtain ⟨a, ha⟩ : ∃ a, a = H.size := ⟨_, rfl⟩
  have hS0 := hS
  refine r_new X hK kX1 tw_1_143 rfl tw_1_144 tw_1_7 hS dfs_1 (by omega) (by show slots + 2 ≤ _; omega) dX8_init_125 (fun H1 hat hz hq hS => ?_)
  rw [← ha] at hat hz hq ⊢
  refine lv_dup hx hb dX8_init_128 rfl ?_
  have hltL : ∀ F q, cdom σ F q → L F q < a := fun F q hd => by rw [ha]; exact (hG.1 F q hd).lt
  have hGc : PW D cI cZ cO (cdom σ) L σ ow H1 := hG.kept2 (fun F k hd => hq _ (hltL F k hd))
  obtain ⟨z9, hz9⟩ : ∃ z, z = H1.size := ⟨_, rfl⟩
  have haz : a < z9 := by omega
  have hLo : ∀ F q, ¬ (F / 100 = 1 ∧ q = n) → (newL 1 n a z9 0 L) F q = L F q := fun F q h => newL_o h
  have eA : (newL 1 n a z9 0 L) 199 n = a := newL_n (C := 1) (F := 199) rfl
  have hM := nX1_init (D := D) (cI := cI) (cZ := cZ) (cO := cO) l (newL 1 n a z9 0 L) (i_1 n σ) n z9 (by simp [i_1, wI, up2, up1]) (by simp [i_1, wI, up2, up1])
  rw [eA] at hM
  refine r_ctorN (As := []) (na := 0) (rest := [.ref a, .ref (L 1099 3)]) X hK hat hz9.symm hS (fun q h => h.elim (fun z => hN q (by rw [z, ha]; exact hS0.1)) (fun z => hN q (by have := hS0.1; omega))) tw_1_146 tw_1_7 tw_1_147 (hX9.2.2.2 _ (List.mem_of_getElem? (i := 8) rfl)) rfl ⟨by decide +kernel, by decide +kernel, by decide +kernel⟩ hM rfl rfl rfl hl.1 rfl (Nat.le_of_ble_eq_true rfl) ⟨by show 1 + 1 ≤ _; omega, by show 8 + (1 + 11) + 12 ≤ _; omega⟩ ⟨by omega, by show slots + 2 + 0 ≤ _; omega⟩ dX8_init_129 (fun H2 locs hGn hPz hsz2 hq2 hS => ?_)
  have hoff : Off 1 n σ (i_1 n σ) := i_1_off
  have hGb := pw_beside (nl := [199]) (o := 0) (by decide) (show cj 1 = 3 from rfl) h3.symm hI hGc hoff hltL haz hq2 (by decide) hGn
  have hcap := hI.1 3 (by decide)
  have eN : (i_1 n σ).1 1002 3 = n := by rw [(hoff 1002 3 (by omega)).1.1, h3]
  have eC : (i_1 n σ).1 1003 3 = σ.1 1003 3 := (hoff 1003 3 (by omega)).1.1
  have eAl : (i_1 n σ).2.2.1 1001 3 = σ.2.2.1 1001 3 := (hoff 1001 3 (by omega)).2.1
  have hlok := lok_new (L' := newL 1 n a z9 0 L) (nl := [199]) (by decide) (lok_of ⟨hGc, hC.2⟩ hI (show 3 < 8 by decide)) hoff hLo (by decide)
  rw [show Value.ref a = Value.ref (newL 1 n a z9 0 L 199 n) by rw [eA], ← hLo 1099 3 (by omega)]
  have hNs : ∀ q, H.size ≤ q → A q := fun q h => hN q (Nat.le_trans hS0.1 h)
  refine pw_add X hK hGb hS (fun q h => h.elim (fun z => z.elim (hO q) (fun y => y.elim (fun w => hNs q (by omega)) (fun w => hNs q (by omega)))) (hN q)) hE (j := 3) (x := n) (M := 1) (S := 60) hlok (Or.inr (List.mem_map.mpr ⟨199, by decide, rfl⟩)) kX1 rfl (by decide) (fun i hi => Or.inl (by rw [eAl]; exact hel_of hI (j := 3) (by decide) i (by rw [eN] at hi; rw [h3]; exact hi))) (fun _ => ⟨Nat.le_refl _, by decide⟩) (fun z => ⟨Nat.le_refl _, by rw [eN, eC] at z; rw [eC]; omega⟩) ml_X8_58 hl.1 (Nat.le_of_ble_eq_true rfl) ⟨by omega, by omega⟩ ⟨by omega, by show slots + 2 + 0 + 60 ≤ _; omega⟩ dX8_init_132 (fun b H locs hG3 hAb hS => ?_)
  refine lv_pop hx hb dX8_init_135 rfl ?_
  obtain ⟨L3, ow3, hL3, hO3, hC3⟩ := xb_new (sz := s.heap.size) (b := b) (nl := [199]) (by decide) (show cj 1 = 3 from rfl) (by decide) ⟨by decide, by decide⟩ h3.symm ⟨hGc.ow2 (ow' := A) (fun F k hd => hO _ (hGc.2.2 F k hd)), hC.2⟩ hI (fun F hF h => hinj_1 F hF h) (fun f hf h => hnl_1 f hf h) hoff hLo hG3 (fun q h => Or.inl (h.elim (fun z => z.elim (hO q) (fun y => y.elim (fun w => hNs q (by omega)) (fun w => hNs q (by omega)))) (fun z => by rw [z]; exact hAb)))
  refine r_iincN (b := 1) (lv' := [(1, .int (nI (n + 1))), (0, .ref (L 899 0))]) hx hb dX8_init_136 hl (k := 0) rfl (by decide) (by decide) rfl (fun ls hl => ?_)
  refine lv_goto (tgt := 116) hx hb dX8_init_139 (by decide) ?_
  exact kk L3 ow3 H locs ls (hL3 899 0 (cd_fix (by decide)) (by decide)) hC3 (fun q h => (hO3 q h).elim (fun z => z) (hN q)) hS hl
end GAU
