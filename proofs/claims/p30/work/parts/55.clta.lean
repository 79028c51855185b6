section SZK
variable {D : va_G} {cI cZ cO : ClassId} {dom : Nat → Nat → Prop} {L : Lay} {σ : St} {ow A : Nat → Prop} {H H0 : Heap}
variable {p : Program} {l : Launch} {e : Env} {R : Room} {s : State} {m : MethodId} {args : Array Value} {below : List Frame} {meth : Method} {c : Code} {locs : List Loc} {cells slots : Nat} {Q : State → Prop} {cc : ByteArray} {pc nL : Nat} {ls : Array Slot} {rest : List Value} {own : String}
theorem x_sizeK (X : CallFix p m c cc nL s args TB own) (hK : KK D cI cZ cO s) (hG : PW D cI cZ cO dom L σ ow H) (hS : va_S A H0 H locs) (hA : ∀ q, AA ow H0.size q → A q) {j idx : Nat} (hd : dom 1099 j) (hl : Cond.methodLink own idx yJx4a65c_size_8abf5 ∈ TB) (hls : ls.size = nL) (hrm : (rest.map fun v => v.category).sum ≤ 8) (hR : 1 ≤ R.frames ∧ 20 ≤ R.locals) (hc : cells ≤ R.cells ∧ slots ≤ R.slots) (d : decode cc pc = .ok (.invokevirtual idx, 3))
    (kk : ∀ (H1 : Heap) (locs1 : List Loc), PW D cI cZ cO dom L σ ow H1 → H.size ≤ H1.size → (∀ q, q < H.size → (∀ F k, dom F k → L F k ≠ q) → H1[q]? = H[q]?) → va_S A H0 H1 locs1 → W p l e R s m args below meth c H1 locs1 cells slots Q (F0 m (pc + 3) ls (.int (nI (σ.1 1002 j)) :: rest))) : W p l e R s m args below meth c H locs cells slots Q (F0 m pc ls (.ref (L 1099 j) :: rest)) := by
  have hG' := hG.ow2 (ow' := fun q => ∃ F k, dom F k ∧ L F k = q) (fun F k hd => ⟨F, k, hd, rfl⟩)
  have hAA : ∀ q, AA (fun q => ∃ F k, dom F k ∧ L F k = q) H.size q → A q := fun q h => h.elim (fun ⟨F, k, hd, e⟩ => by rw [← e]; exact hA _ (Or.inl (hG.2.2 F k hd))) (fun z => hA _ (Or.inr (Nat.le_trans hS.1 z)))
  refine va_calli (va_runV (As := []) (rest := rest) X (c_Jx4a65c_size_8abf5 l L σ _ j hd H.size) (yv_cw X.2.2.2.2 yvJx4a65c_size_8abf5 hl rfl rfl hR) ⟨rp_blind, pw_recv hK hG' kJx4a65c rfl hd, rp_pre hK hG' rfl⟩ rfl rfl hls rfl (lv_room hrm) d hc) hS (fun q _ h => hAA q h) (fun q h => hAA q h) ?_
  intro r1 u t H1 locs1 ht _ hw hB hz hk hS1
  subst hw
  rw [ht] at hB
  exact kk H1 locs1 (hB.ow2 (fun F k hd => hG.2.2 F k hd)) hz (fun q h1 h2 => hk q h1 (fun z => z.elim (fun ⟨F, k, hd, e⟩ => h2 F k hd e) (fun y => by omega))) hS1
end SZK
theorem dfs_0 : ∀ j, j < (flds 0).length → defaultValue (tyX0 j) = vp_V (dfs 0) j := fun j hj => by
  have hj : j < 6 := hj
  rcases (by omega : j = 0 ∨ j = 1 ∨ j = 2 ∨ j = 3 ∨ j = 4 ∨ j = 5) with rfl | rfl | rfl | rfl | rfl | rfl <;> rfl
theorem dfs_1 : ∀ j, j < (flds 1).length → defaultValue (tyX1 j) = vp_V (dfs 1) j := fun j hj => by
  have hj : j < 2 := hj
  rcases (by omega : j = 0 ∨ j = 1) with rfl | rfl <;> rfl
theorem dfs_2 : ∀ j, j < (flds 2).length → defaultValue (tyX2 j) = vp_V (dfs 2) j := fun j hj => by
  have hj : j < 10 := hj
  rcases (by omega : j = 0 ∨ j = 1 ∨ j = 2 ∨ j = 3 ∨ j = 4 ∨ j = 5 ∨ j = 6 ∨ j = 7 ∨ j = 8 ∨ j = 9) with rfl | rfl | rfl | rfl | rfl | rfl | rfl | rfl | rfl | rfl <;> rfl
theorem dfs_3 : ∀ j, j < (flds 3).length → defaultValue (tyX3 j) = vp_V (dfs 3) j := fun j hj => by
  have hj : j < 7 := hj
  rcases (by omega : j = 0 ∨ j = 1 ∨ j = 2 ∨ j = 3 ∨ j = 4 ∨ j = 5 ∨ j = 6) with rfl | rfl | rfl | rfl | rfl | rfl | rfl <;> rfl
theorem dfs_4 : ∀ j, j < (flds 4).length → defaultValue (tyX4 j) = vp_V (dfs 4) j := fun j hj => by
  have hj : j < 3 := hj
  rcases (by omega : j = 0 ∨ j = 1 ∨ j = 2) with rfl | rfl | rfl <;> rfl
theorem dfs_5 : ∀ j, j < (flds 5).length → defaultValue (tyX5 j) = vp_V (dfs 5) j := fun j hj => by
  have hj : j < 8 := hj
  rcases (by omega : j = 0 ∨ j = 1 ∨ j = 2 ∨ j = 3 ∨ j = 4 ∨ j = 5 ∨ j = 6 ∨ j = 7) with rfl | rfl | rfl | rfl | rfl | rfl | rfl | rfl <;> rfl
theorem dfs_6 : ∀ j, j < (flds 6).length → defaultValue (tyX6 j) = vp_V (dfs 6) j := fun j hj => by
  have hj : j < 5 := hj
  rcases (by omega : j = 0 ∨ j = 1 ∨ j = 2 ∨ j = 3 ∨ j = 4) with rfl | rfl | rfl | rfl | rfl <;> rfl
theorem dfs_7 : ∀ j, j < (flds 7).length → defaultValue (tyX7 j) = vp_V (dfs 7) j := fun j hj => by
  have hj : j < 11 := hj
  rcases (by omega : j = 0 ∨ j = 1 ∨ j = 2 ∨ j = 3 ∨ j = 4 ∨ j = 5 ∨ j = 6 ∨ j = 7 ∨ j = 8 ∨ j = 9 ∨ j = 10) with rfl | rfl | rfl | rfl | rfl | rfl | rfl | rfl | rfl | rfl | rfl <;> rfl
def i_4 (k : Nat) (σ : St) : St := wN (wR (wR σ 400 k (fun _ => 0)) 401 k (fun _ => 0)) 402 k 0
theorem i_4_off {k : Nat} {σ : St} : Off 4 k σ (i_4 k σ) := by
  unfold i_4
  exact (Off.tr (Off.tr (off_wR (C := 4) (F0 := 400) (by decide)) (off_wR (C := 4) (F0 := 401) (by decide))) (off_wN (C := 4) (F0 := 402) (by decide)))
def i_0 (k : Nat) (σ : St) : St := wN (wRA (wRA (wRA (wRA (wRA σ 0 k (fun _ => 0)) 1 k (fun _ => 0)) 2 k (fun _ => 0)) 3 k (fun _ => 0)) 4 k (fun _ => 0)) 5 k 0
theorem i_0_off {k : Nat} {σ : St} : Off 0 k σ (i_0 k σ) := by
  unfold i_0
  exact (Off.tr (Off.tr (Off.tr (Off.tr (Off.tr (off_wRA (C := 0) (F0 := 0) (by decide)) (off_wRA (C := 0) (F0 := 1) (by decide))) (off_wRA (C := 0) (F0 := 2) (by decide))) (off_wRA (C := 0) (F0 := 3) (by decide))) (off_wRA (C := 0) (F0 := 4) (by decide))) (off_wN (C := 0) (F0 := 5) (by decide)))
def i_5 (k : Nat) (v1 v2 : Int32) (v3 : Nat) (σ : St) : St := wI (wN (wI (wN (wN (wI (wI (wR σ 503 k (fun _ => 0)) 500 k v1) 501 k v2) 502 k v3) 504 k 0) 505 k 0) 506 k 0) 507 k 0
theorem i_5_off {k : Nat} {v1 v2 : Int32} {v3 : Nat} {σ : St} : Off 5 k σ (i_5 k v1 v2 v3 σ) := by
  unfold i_5
  exact (Off.tr (Off.tr (Off.tr (Off.tr (Off.tr (Off.tr (Off.tr (off_wR (C := 5) (F0 := 503) (by decide)) (off_wI (C := 5) (F0 := 500) (by decide))) (off_wI (C := 5) (F0 := 501) (by decide))) (off_wN (C := 5) (F0 := 502) (by decide))) (off_wN (C := 5) (F0 := 504) (by decide))) (off_wI (C := 5) (F0 := 505) (by decide))) (off_wN (C := 5) (F0 := 506) (by decide))) (off_wI (C := 5) (F0 := 507) (by decide)))
def i_2 (k : Nat) (σ : St) : St := wI (wN (wI (wI (wN (wR (wR (wR (wR (wR σ 200 k (fun _ => 0)) 201 k (fun _ => 0)) 202 k (fun _ => 0)) 203 k (fun _ => 0)) 204 k (fun _ => 0)) 205 k 0) 206 k (nI 0)) 207 k (-1)) 208 k 0) 209 k (-1)
theorem i_2_off {k : Nat} {σ : St} : Off 2 k σ (i_2 k σ) := by
  unfold i_2
  exact (Off.tr (Off.tr (Off.tr (Off.tr (Off.tr (Off.tr (Off.tr (Off.tr (Off.tr (off_wR (C := 2) (F0 := 200) (by decide)) (off_wR (C := 2) (F0 := 201) (by decide))) (off_wR (C := 2) (F0 := 202) (by decide))) (off_wR (C := 2) (F0 := 203) (by decide))) (off_wR (C := 2) (F0 := 204) (by decide))) (off_wN (C := 2) (F0 := 205) (by decide))) (off_wI (C := 2) (F0 := 206) (by decide))) (off_wI (C := 2) (F0 := 207) (by decide))) (off_wN (C := 2) (F0 := 208) (by decide))) (off_wI (C := 2) (F0 := 209) (by decide)))
def i_3 (k : Nat) (v1 v2 v3 v4 : Int32) (σ : St) : St := wN (wI (wI (wI (wI (wR (wR σ 304 k (fun _ => 0)) 305 k (fun _ => 0)) 300 k v1) 301 k v2) 302 k v3) 303 k v4) 306 k 0
theorem i_3_off {k : Nat} {v1 v2 v3 v4 : Int32} {σ : St} : Off 3 k σ (i_3 k v1 v2 v3 v4 σ) := by
  unfold i_3
  exact (Off.tr (Off.tr (Off.tr (Off.tr (Off.tr (Off.tr (off_wR (C := 3) (F0 := 304) (by decide)) (off_wR (C := 3) (F0 := 305) (by decide))) (off_wI (C := 3) (F0 := 300) (by decide))) (off_wI (C := 3) (F0 := 301) (by decide))) (off_wI (C := 3) (F0 := 302) (by decide))) (off_wI (C := 3) (F0 := 303) (by decide))) (off_wN (C := 3) (F0 := 306) (by decide)))
theorem hnl_0 : ∀ f, f < 100 → isL (100 * 0 + f) → 100 * 0 + f ∈ ([99, 4, 3, 2, 1, 0] : List Nat) := by unfold isL; decide +kernel
theorem hinj_0 : ∀ F, F < 600 → cj (F / 100) = 4 → F / 100 = 0 := by decide +kernel
theorem hnl_2 : ∀ f, f < 100 → isL (100 * 2 + f) → 100 * 2 + f ∈ ([299, 204, 203, 202, 201, 200] : List Nat) := by unfold isL; decide +kernel
theorem hinj_2 : ∀ F, F < 600 → cj (F / 100) = 1 → F / 100 = 2 := by decide +kernel
theorem hnl_3 : ∀ f, f < 100 → isL (100 * 3 + f) → 100 * 3 + f ∈ ([399, 305, 304] : List Nat) := by unfold isL; decide +kernel
theorem hinj_3 : ∀ F, F < 600 → cj (F / 100) = 5 → F / 100 = 3 := by decide +kernel
theorem hnl_4 : ∀ f, f < 100 → isL (100 * 4 + f) → 100 * 4 + f ∈ ([499, 401, 400] : List Nat) := by unfold isL; decide +kernel
theorem hinj_4 : ∀ F, F < 600 → cj (F / 100) = 6 → F / 100 = 4 := by decide +kernel
theorem hnl_5 : ∀ f, f < 100 → isL (100 * 5 + f) → 100 * 5 + f ∈ ([599, 503] : List Nat) := by unfold isL; decide +kernel
theorem hinj_5 : ∀ F, F < 600 → cj (F / 100) = 0 → F / 100 = 5 := by decide +kernel
def k_program (σ : St) : Nat × Int32 × St := if (σ.1 1002 6) < 6 then ((0, nI (σ.1 1002 6), ladd 6 (σ.1 1002 6) (i_4 (σ.1 1002 6) σ))) else ((3, 0, σ))
set_option maxRecDepth 100000 in
set_option maxHeartbeats 8000000 in
theorem y_X8_program {D : va_G} {cI cZ cO : ClassId} {t0 mi : Nat} (l : Launch) (hl9 : l.stackTraces = false) (L : Lay) (σ : St) (ow : Nat → Prop) (hI : CI σ) : YI D cI cZ cO t0 mi l yX8_program cX8_program 1 ((some FieldType.int)) 10 300 4 200 [.ref (L 899 0)] L σ ow (k_program σ).1 (k_program σ).2.1 (k_program σ).2.2 := by
  refine y_of (Qc := fun sz => YQi (k_program σ).1 (k_program σ).2.1 (XB D cI cZ cO t0 L σ ow sz (k_program σ).2.2) (AA ow sz)) (XC := fun sz => YX (k_program σ).1 (XB D cI cZ cO t0 L σ ow sz (k_program σ).2.2) (AA ow sz)) rfl (Nat.le_of_ble_eq_true rfl) ?_
  intro p e s m args below meth c ls X hex hK hC hE hX9 hr hlocks hl
  have X : CallFix p m c cX8_program 1 s _ TB RX8 := X
  have hx := X.1
  have hb := X.2.1
  have hS : va_S (AA ow s.heap.size) s.heap s.heap [] := va_S.rf
  have hA : ∀ q, ow q → AA ow s.heap.size q := fun _ h => Or.inl h
  have hA2 : ∀ q, AA ow s.heap.size q → AA ow s.heap.size q := fun _ h => h
  have hG := hC.1
  have hc16 := hI.1 6 (by decide)
  have hl : lv_has ls 1 [(0, .ref (L 899 0))] := hl
  refine lv_aload_n hx hb dX8_program_0 rfl (lv_at hl 0 rfl) ?_
  refine gt_X8_44 X hK hG (cd_fix (by decide)) dX8_program_1 ?_
  refine gt_X8_62 X hK hG (cd_fix (by decide)) dX8_program_4 ?_
  refine x_size X hK hG hS hA2 (cd_list (by decide)) ml_X8_65 hl.1 (Nat.le_of_ble_eq_true rfl) ⟨Nat.le_of_ble_eq_true rfl, Nat.le_of_ble_eq_true rfl⟩ ⟨Nat.le_of_ble_eq_true rfl, Nat.le_of_ble_eq_true rfl⟩ dX8_program_7 (fun H locs hG hS => ?_)
  refine lv_bipush (v := nI 6) hx hb dX8_program_10 (by decide) ?_
  refine r_icmp_ltN (tgt := 25) hx hb dX8_program_12 (by decide) (by omega) (by omega) (fun c_12 => ?_) (fun c_12 => ?_)
  · rw [show k_program σ = (0, nI (σ.1 1002 6), ladd 6 (σ.1 1002 6) (i_4 (σ.1 1002 6) σ)) from by unfold k_program; first | (rw [if_pos c_12] <;> rfl) | simp only [if_pos c_12]]
    have hk16 : (σ.1 1002 6) < 6 := by omega
    refine lv_aload_n hx hb dX8_program_25 rfl (lv_at hl 0 rfl) ?_
    refine gt_X8_44 X hK hG (cd_fix (by decide)) dX8_program_26 ?_
    refine gt_X8_62 X hK hG (cd_fix (by decide)) dX8_program_29 ?_
    obtain ⟨a, ha⟩ : ∃ a, a = H.size := ⟨_, rfl⟩
    have hS0 := hS
    refine r_new X hK kX4 tw_3_78 rfl tw_3_79 tw_1_23 hS dfs_4 (Nat.le_of_ble_eq_true rfl) (Nat.le_of_ble_eq_true rfl) dX8_program_32 (fun H1 hat hz hq hS => ?_)
    rw [← ha] at hat hz hq ⊢
    refine lv_dup hx hb dX8_program_35 rfl ?_
    have hltL : ∀ F q, cdom σ F q → L F q < a := fun F q hd => by rw [ha]; exact (hG.1 F q hd).lt
    have hGc : PW D cI cZ cO (cdom σ) L σ ow H1 := hG.kept2 (fun F k hd => hq _ (hltL F k hd))
    have hzc : a < H1.size := by omega
    obtain ⟨z9, hz9⟩ : ∃ z, z = H1.size := ⟨_, rfl⟩
    have haz : a < z9 := by rw [hz9]; exact hzc
    have hLo : ∀ F q, ¬ (F / 100 = 4 ∧ q = (σ.1 1002 6)) → (newL 4 (σ.1 1002 6) a z9 0 L) F q = L F q := fun F q h => newL_o h
    have eA : (newL 4 (σ.1 1002 6) a z9 0 L) 499 (σ.1 1002 6) = a := newL_n (C := 4) (F := 499) rfl
    have hM := nX4_init (D := D) (cI := cI) (cZ := cZ) (cO := cO) l (newL 4 (σ.1 1002 6) a z9 0 L) (i_4 (σ.1 1002 6) σ) (σ.1 1002 6) z9  (fun z hz => by
        simp only [List.mem_cons, List.not_mem_nil, or_false] at hz
        rcases hz with rfl | rfl <;> exact newL_n (C := 4) rfl)
        (fun F hF i => by simp only [List.mem_cons, List.not_mem_nil, or_false] at hF; rcases hF with rfl | rfl <;> simp [i_4, wN, wI, wR, wRA, up2, up1])
        (by simp [i_4, wN, wI, wR, wRA, up2, up1])
    rw [eA] at hM
    refine r_ctorN (As := []) (na := 0) (rest := [.ref a, .ref (L 1099 6)]) X hK hat hz9.symm hS (fun q h => h.elim (fun z => Or.inr (by rw [z, ha]; exact hS0.1)) (fun z => Or.inr (by have := hS0.1; omega))) tw_3_81 tw_1_23 tw_3_82 (hX9.2.2.2 _ (List.mem_of_getElem? (i := 9) rfl)) rfl ⟨by decide +kernel, by decide +kernel, by decide +kernel⟩ hM rfl rfl rfl hl.1 rfl (Nat.le_of_ble_eq_true rfl) ⟨Nat.le_of_ble_eq_true rfl, Nat.le_of_ble_eq_true rfl⟩ ⟨Nat.le_of_ble_eq_true rfl, Nat.le_of_ble_eq_true rfl⟩ dX8_program_36 (fun H2 locs hGn hPz hsz2 hq2 hS => ?_)
    have hoff : Off 4 (σ.1 1002 6) σ (i_4 (σ.1 1002 6) σ) := i_4_off
    have hGb := pw_beside (nl := [499, 401, 400]) (o := 0) (by decide) (show cj 4 = 6 from rfl) rfl hI hGc hoff hltL haz hq2 (by decide) hGn
    have hcap := hI.1 6 (by decide)
    have eN : (i_4 (σ.1 1002 6) σ).1 1002 6 = (σ.1 1002 6) := (hoff 1002 6 (by omega)).1.1
    have eC : (i_4 (σ.1 1002 6) σ).1 1003 6 = σ.1 1003 6 := (hoff 1003 6 (by omega)).1.1
    have eAl : (i_4 (σ.1 1002 6) σ).2.2.1 1001 6 = σ.2.2.1 1001 6 := (hoff 1001 6 (by omega)).2.1
    rw [← eA, ← hLo 1099 6 (by omega)]
    refine pw_add X hK hGb hS (fun q h => h.elim (fun z => z.elim Or.inl (fun y => y.elim (fun w => Or.inr (by rw [w, ha]; exact hS0.1)) (fun w => Or.inr (by have := hS0.1; omega)))) Or.inr) hE (j := 6) (x := (σ.1 1002 6)) (M := 1) (S := 60) (lok_new (by decide) (lok_of ⟨hGc, hC.2⟩ hI (by decide)) hoff hLo (by decide)) (Or.inr (List.mem_map.mpr ⟨499, by decide, rfl⟩)) kX4 rfl (by decide) (fun i hi => Or.inl (by rw [eAl]; exact hel_of hI (j := 6) (by decide) i (by rw [eN] at hi; exact hi))) (fun _ => ⟨Nat.le_refl _, by decide⟩) (fun z => ⟨Nat.le_refl _, by rw [eN, eC] at z; rw [eC]; omega⟩) ml_X8_58 hl.1 (Nat.le_of_ble_eq_true rfl) ⟨Nat.le_of_ble_eq_true rfl, Nat.le_of_ble_eq_true rfl⟩ ⟨Nat.le_of_ble_eq_true rfl, Nat.le_of_ble_eq_true rfl⟩ dX8_program_39 (fun b H locs hG3 hAb hS => ?_)
    refine lv_pop hx hb dX8_program_42 rfl ?_
    obtain ⟨L3, ow3, hL3, hO3, hC3⟩ := xb_new (sz := s.heap.size) (b := b) (nl := [499, 401, 400]) (by decide) (show cj 4 = 6 from rfl) (by decide) ⟨by decide, by decide⟩ rfl ⟨hGc, hC.2⟩ hI (fun F hF h => hinj_4 F hF h) (fun f hf h => hnl_4 f hf h) hoff hLo hG3 (fun q h => h.elim (fun z => z.elim Or.inl (fun y => y.elim (fun w => Or.inr (by rw [w, ha]; exact hS0.1)) (fun w => Or.inr (by have := hS0.1; omega)))) (fun z => by rw [z]; exact hAb))
    have hN : (ladd 6 (σ.1 1002 6) (i_4 (σ.1 1002 6) σ)).1 1002 6 = (σ.1 1002 6) + 1 := by rw [ladd_N, eN]
    rw [show L 899 0 = L3 899 0 from (hL3 899 0 (cd_fix (by decide)) (by decide)).symm] at hl
    refine lv_aload_n hx hb dX8_program_43 rfl (lv_at hl 0 rfl) ?_
    refine gt_X8_44 X hK hC3.1 (cd_fix (by decide)) dX8_program_44 ?_
    refine gt_X8_62 X hK hC3.1 (cd_fix (by decide)) dX8_program_47 ?_
    refine x_size X hK hC3.1 hS (fun q h => h.elim (hO3 q) Or.inr) (cd_list (by decide)) ml_X8_65 hl.1 (Nat.le_of_ble_eq_true rfl) ⟨Nat.le_of_ble_eq_true rfl, Nat.le_of_ble_eq_true rfl⟩ ⟨Nat.le_of_ble_eq_true rfl, Nat.le_of_ble_eq_true rfl⟩ dX8_program_50 (fun H locs hG4 hS => ?_)
    rw [hN]
    refine lv_iconst (v := nI 1) hx hb dX8_program_53 (by decide) ?_
    refine r_subN hx hb (by omega) dX8_program_54 ?_
    exact y_reti hx hb hr hlocks ⟨L3, ow3, hL3, hO3, hG4, hC3.2⟩ hS (by rw [Nat.add_sub_cancel]) rfl rfl (Nat.le_of_ble_eq_true rfl) (Nat.le_of_ble_eq_true rfl) dX8_program_55
  · rw [show k_program σ = (3, 0, σ) from by unfold k_program; first | (rw [if_neg (Nat.not_lt.mpr c_12)] <;> rfl) | simp only [if_neg (Nat.not_lt.mpr c_12)]]
    exact y_throw (e8 := 3) (tx := "no more programs") hx X hl9 xw_3 hX9 (List.mem_of_getElem? (i := 0) rfl) hex hlocks hl.1 hS (xb_ext (xb_rf hC hG ⟨rfl, rfl⟩)) (by decide) rfl dX8_program_15 dX8_program_18 dX8_program_19 dX8_program_21 dX8_program_24 (Nat.le_of_ble_eq_true rfl) (Nat.le_of_ble_eq_true rfl) (Nat.le_of_ble_eq_true rfl) (Nat.le_of_ble_eq_true rfl) (Nat.le_of_ble_eq_true rfl) (Nat.le_of_ble_eq_true rfl)
def k_drawing (σ : St) : Nat × Int32 × St := if (σ.1 1002 4) < 4 then ((0, nI (σ.1 1002 4), ladd 4 (σ.1 1002 4) (i_0 (σ.1 1002 4) σ))) else ((3, 0, σ))
set_option maxRecDepth 100000 in
set_option maxHeartbeats 8000000 in
theorem y_X8_drawing {D : va_G} {cI cZ cO : ClassId} {t0 mi : Nat} (l : Launch) (hl9 : l.stackTraces = false) (L : Lay) (σ : St) (ow : Nat → Prop) (hI : CI σ) : YI D cI cZ cO t0 mi l yX8_drawing cX8_drawing 1 ((some FieldType.int)) 10 300 8 200 [.ref (L 899 0)] L σ ow (k_drawing σ).1 (k_drawing σ).2.1 (k_drawing σ).2.2 := by
  refine y_of (Qc := fun sz => YQi (k_drawing σ).1 (k_drawing σ).2.1 (XB D cI cZ cO t0 L σ ow sz (k_drawing σ).2.2) (AA ow sz)) (XC := fun sz => YX (k_drawing σ).1 (XB D cI cZ cO t0 L σ ow sz (k_drawing σ).2.2) (AA ow sz)) rfl (Nat.le_of_ble_eq_true rfl) ?_
  intro p e s m args below meth c ls X hex hK hC hE hX9 hr hlocks hl
  have X : CallFix p m c cX8_drawing 1 s _ TB RX8 := X
  have hx := X.1
  have hb := X.2.1
  have hS : va_S (AA ow s.heap.size) s.heap s.heap [] := va_S.rf
  have hA : ∀ q, ow q → AA ow s.heap.size q := fun _ h => Or.inl h
  have hA2 : ∀ q, AA ow s.heap.size q → AA ow s.heap.size q := fun _ h => h
  have hG := hC.1
  have hc16 := hI.1 4 (by decide)
  have hl : lv_has ls 1 [(0, .ref (L 899 0))] := hl
  refine lv_aload_n hx hb dX8_drawing_0 rfl (lv_at hl 0 rfl) ?_
  refine gt_X8_25 X hK hG (cd_fix (by decide)) dX8_drawing_1 ?_
  refine x_size X hK hG hS hA2 (cd_list (by decide)) ml_X8_65 hl.1 (Nat.le_of_ble_eq_true rfl) ⟨Nat.le_of_ble_eq_true rfl, Nat.le_of_ble_eq_true rfl⟩ ⟨Nat.le_of_ble_eq_true rfl, Nat.le_of_ble_eq_true rfl⟩ dX8_drawing_4 (fun H locs hG hS => ?_)
  refine lv_iconst (v := nI 4) hx hb dX8_drawing_7 (by decide) ?_
  refine r_icmp_ltN (tgt := 21) hx hb dX8_drawing_8 (by decide) (by omega) (by omega) (fun c_8 => ?_) (fun c_8 => ?_)
  · rw [show k_drawing σ = (0, nI (σ.1 1002 4), ladd 4 (σ.1 1002 4) (i_0 (σ.1 1002 4) σ)) from by unfold k_drawing; first | (rw [if_pos c_8] <;> rfl) | simp only [if_pos c_8]]
    have hk16 : (σ.1 1002 4) < 4 := by omega
    refine lv_aload_n hx hb dX8_drawing_21 rfl (lv_at hl 0 rfl) ?_
    refine gt_X8_25 X hK hG (cd_fix (by decide)) dX8_drawing_22 ?_
    obtain ⟨a, ha⟩ : ∃ a, a = H.size := ⟨_, rfl⟩
    have hS0 := hS
    refine r_new X hK kX0 tw_2_97 rfl tw_2_98 tw_1_16 hS dfs_0 (Nat.le_of_ble_eq_true rfl) (Nat.le_of_ble_eq_true rfl) dX8_drawing_25 (fun H1 hat hz hq hS => ?_)
    rw [← ha] at hat hz hq ⊢
    refine lv_dup hx hb dX8_drawing_28 rfl ?_
    have hltL : ∀ F q, cdom σ F q → L F q < a := fun F q hd => by rw [ha]; exact (hG.1 F q hd).lt
    have hGc : PW D cI cZ cO (cdom σ) L σ ow H1 := hG.kept2 (fun F k hd => hq _ (hltL F k hd))
    have hzc : a < H1.size := by omega
    obtain ⟨z9, hz9⟩ : ∃ z, z = H1.size := ⟨_, rfl⟩
    have haz : a < z9 := by rw [hz9]; exact hzc
    have hLo : ∀ F q, ¬ (F / 100 = 0 ∧ q = (σ.1 1002 4)) → (newL 0 (σ.1 1002 4) a z9 0 L) F q = L F q := fun F q h => newL_o h
    have eA : (newL 0 (σ.1 1002 4) a z9 0 L) 99 (σ.1 1002 4) = a := newL_n (C := 0) (F := 99) rfl
    have hM := nX0_init (D := D) (cI := cI) (cZ := cZ) (cO := cO) l (newL 0 (σ.1 1002 4) a z9 0 L) (i_0 (σ.1 1002 4) σ) (σ.1 1002 4) z9  (fun z hz => by
        simp only [List.mem_cons, List.not_mem_nil, or_false] at hz
        rcases hz with rfl | rfl | rfl | rfl | rfl <;> exact newL_n (C := 0) rfl)
        (fun F hF i => by simp only [List.mem_cons, List.not_mem_nil, or_false] at hF; rcases hF with rfl | rfl | rfl | rfl | rfl <;> simp [i_0, wN, wI, wR, wRA, up2, up1])
        (by simp [i_0, wN, wI, wR, wRA, up2, up1])
    rw [eA] at hM
    refine r_ctorN (As := []) (na := 0) (rest := [.ref a, .ref (L 1099 4)]) X hK hat hz9.symm hS (fun q h => h.elim (fun z => Or.inr (by rw [z, ha]; exact hS0.1)) (fun z => Or.inr (by have := hS0.1; omega))) tw_2_100 tw_1_16 tw_2_101 (hX9.2.2.2 _ (List.mem_of_getElem? (i := 10) rfl)) rfl ⟨by decide +kernel, by decide +kernel, by decide +kernel⟩ hM rfl rfl rfl hl.1 rfl (Nat.le_of_ble_eq_true rfl) ⟨Nat.le_of_ble_eq_true rfl, Nat.le_of_ble_eq_true rfl⟩ ⟨Nat.le_of_ble_eq_true rfl, Nat.le_of_ble_eq_true rfl⟩ dX8_drawing_29 (fun H2 locs hGn hPz hsz2 hq2 hS => ?_)
    have hoff : Off 0 (σ.1 1002 4) σ (i_0 (σ.1 1002 4) σ) := i_0_off
    have hGb := pw_beside (nl := [99, 4, 3, 2, 1, 0]) (o := 0) (by decide) (show cj 0 = 4 from rfl) rfl hI hGc hoff hltL haz hq2 (by decide) hGn
    have hcap := hI.1 4 (by decide)
    have eN : (i_0 (σ.1 1002 4) σ).1 1002 4 = (σ.1 1002 4) := (hoff 1002 4 (by omega)).1.1
    have eC : (i_0 (σ.1 1002 4) σ).1 1003 4 = σ.1 1003 4 := (hoff 1003 4 (by omega)).1.1
    have eAl : (i_0 (σ.1 1002 4) σ).2.2.1 1001 4 = σ.2.2.1 1001 4 := (hoff 1001 4 (by omega)).2.1
    rw [← eA, ← hLo 1099 4 (by omega)]
    refine pw_add X hK hGb hS (fun q h => h.elim (fun z => z.elim Or.inl (fun y => y.elim (fun w => Or.inr (by rw [w, ha]; exact hS0.1)) (fun w => Or.inr (by have := hS0.1; omega)))) Or.inr) hE (j := 4) (x := (σ.1 1002 4)) (M := 1) (S := 60) (lok_new (by decide) (lok_of ⟨hGc, hC.2⟩ hI (by decide)) hoff hLo (by decide)) (Or.inr (List.mem_map.mpr ⟨99, by decide, rfl⟩)) kX0 rfl (by decide) (fun i hi => Or.inl (by rw [eAl]; exact hel_of hI (j := 4) (by decide) i (by rw [eN] at hi; exact hi))) (fun _ => ⟨Nat.le_refl _, by decide⟩) (fun z => ⟨Nat.le_refl _, by rw [eN, eC] at z; rw [eC]; omega⟩) ml_X8_58 hl.1 (Nat.le_of_ble_eq_true rfl) ⟨Nat.le_of_ble_eq_true rfl, Nat.le_of_ble_eq_true rfl⟩ ⟨Nat.le_of_ble_eq_true rfl, Nat.le_of_ble_eq_true rfl⟩ dX8_drawing_32 (fun b H locs hG3 hAb hS => ?_)
    refine lv_pop hx hb dX8_drawing_35 rfl ?_
    obtain ⟨L3, ow3, hL3, hO3, hC3⟩ := xb_new (sz := s.heap.size) (b := b) (nl := [99, 4, 3, 2, 1, 0]) (by decide) (show cj 0 = 4 from rfl) (by decide) ⟨by decide, by decide⟩ rfl ⟨hGc, hC.2⟩ hI (fun F hF h => hinj_0 F hF h) (fun f hf h => hnl_0 f hf h) hoff hLo hG3 (fun q h => h.elim (fun z => z.elim Or.inl (fun y => y.elim (fun w => Or.inr (by rw [w, ha]; exact hS0.1)) (fun w => Or.inr (by have := hS0.1; omega)))) (fun z => by rw [z]; exact hAb))
    have hN : (ladd 4 (σ.1 1002 4) (i_0 (σ.1 1002 4) σ)).1 1002 4 = (σ.1 1002 4) + 1 := by rw [ladd_N, eN]
    rw [show L 899 0 = L3 899 0 from (hL3 899 0 (cd_fix (by decide)) (by decide)).symm] at hl
    refine lv_aload_n hx hb dX8_drawing_36 rfl (lv_at hl 0 rfl) ?_
    refine gt_X8_25 X hK hC3.1 (cd_fix (by decide)) dX8_drawing_37 ?_
    refine x_size X hK hC3.1 hS (fun q h => h.elim (hO3 q) Or.inr) (cd_list (by decide)) ml_X8_65 hl.1 (Nat.le_of_ble_eq_true rfl) ⟨Nat.le_of_ble_eq_true rfl, Nat.le_of_ble_eq_true rfl⟩ ⟨Nat.le_of_ble_eq_true rfl, Nat.le_of_ble_eq_true rfl⟩ dX8_drawing_40 (fun H locs hG4 hS => ?_)
    rw [hN]
    refine lv_iconst (v := nI 1) hx hb dX8_drawing_43 (by decide) ?_
    refine r_subN hx hb (by omega) dX8_drawing_44 ?_
    exact y_reti hx hb hr hlocks ⟨L3, ow3, hL3, hO3, hG4, hC3.2⟩ hS (by rw [Nat.add_sub_cancel]) rfl rfl (Nat.le_of_ble_eq_true rfl) (Nat.le_of_ble_eq_true rfl) dX8_drawing_45
  · rw [show k_drawing σ = (3, 0, σ) from by unfold k_drawing; first | (rw [if_neg (Nat.not_lt.mpr c_8)] <;> rfl) | simp only [if_neg (Nat.not_lt.mpr c_8)]]
    exact y_throw (e8 := 3) (tx := "no more drawings") hx X hl9 xw_3 hX9 (List.mem_of_getElem? (i := 21) rfl) hex hlocks hl.1 hS (xb_ext (xb_rf hC hG ⟨rfl, rfl⟩)) (by decide) rfl dX8_drawing_11 dX8_drawing_14 dX8_drawing_15 dX8_drawing_17 dX8_drawing_20 (Nat.le_of_ble_eq_true rfl) (Nat.le_of_ble_eq_true rfl) (Nat.le_of_ble_eq_true rfl) (Nat.le_of_ble_eq_true rfl) (Nat.le_of_ble_eq_true rfl) (Nat.le_of_ble_eq_true rfl)
def k_tool (v1 : Int32) (v2 : Int32) (σ : St) : Nat × Int32 × St := if ¬ (ix v1 4) then ((2, 0, σ)) else (if 1 ≤ v2.toInt ∧ v2.toInt ≤ 500 then (if (σ.1 1002 0) < 16 then ((0, nI (σ.1 1002 0), ladd 0 (σ.1 1002 0) (i_5 (σ.1 1002 0) (nI (σ.1 1002 0)) v1 (tn v2) σ))) else ((3, 0, σ))) else ((2, 0, σ)))
set_option maxRecDepth 100000 in
set_option maxHeartbeats 8000000 in
theorem y_X8_tool {D : va_G} {cI cZ cO : ClassId} {t0 mi : Nat} (l : Launch) (hl9 : l.stackTraces = false) (L : Lay) (σ : St) (ow : Nat → Prop) (v1 : Int32) (v2 : Int32) (hI : CI σ) : YI D cI cZ cO t0 mi l yX8_tool cX8_tool 3 ((some FieldType.int)) 10 300 4 200 [.ref (L 899 0), .int v1, .int v2] L σ ow (k_tool v1 v2 σ).1 (k_tool v1 v2 σ).2.1 (k_tool v1 v2 σ).2.2 := by
  refine y_of (Qc := fun sz => YQi (k_tool v1 v2 σ).1 (k_tool v1 v2 σ).2.1 (XB D cI cZ cO t0 L σ ow sz (k_tool v1 v2 σ).2.2) (AA ow sz)) (XC := fun sz => YX (k_tool v1 v2 σ).1 (XB D cI cZ cO t0 L σ ow sz (k_tool v1 v2 σ).2.2) (AA ow sz)) rfl (Nat.le_of_ble_eq_true rfl) ?_
  intro p e s m args below meth c ls X hex hK hC hE hX9 hr hlocks hl
  have X : CallFix p m c cX8_tool 3 s _ TB RX8 := X
  have hx := X.1
  have hb := X.2.1
  have hS : va_S (AA ow s.heap.size) s.heap s.heap [] := va_S.rf
  have hA : ∀ q, ow q → AA ow s.heap.size q := fun _ h => Or.inl h
  have hA2 : ∀ q, AA ow s.heap.size q → AA ow s.heap.size q := fun _ h => h
  have hG := hC.1
  have hc16 := hI.1 0 (by decide)
  have hl : lv_has ls 3 [(0, .ref (L 899 0)), (1, .int v1), (2, .int v2)] := hl
  refine lv_iload_n hx hb dX8_tool_0 rfl (lv_at hl 1 rfl) ?_
  refine lv_iconst (v := nI 0) hx hb dX8_tool_1 (by decide) ?_
  refine lv_iconst (v := nI 3) hx hb dX8_tool_2 (by decide) ?_
  refine rm_callSg X hK hG hS hA2 ysX8_isWithin ml_X8_105 [.int v1, .int (nI 0), .int (nI 3)] [] (c_X8_isWithin l L σ ow v1 (nI 0) (nI 3)) rfl hl.1 rfl (Nat.le_of_ble_eq_true rfl) ⟨Nat.le_of_ble_eq_true rfl, Nat.le_of_ble_eq_true rfl⟩ ⟨Nat.le_of_ble_eq_true rfl, Nat.le_of_ble_eq_true rfl⟩ dX8_tool_3 (fun H locs hG hS => ?_)
  refine r_top (y := b2i (ix v1 4)) (b2i_c (rg_z 3 (by decide))) ?_
  refine r_if_eqB (tgt := 20) hx hb dX8_tool_6 (by decide) (fun c_6 => ?_) (fun c_6 => ?_)
  · rw [show k_tool v1 v2 σ = (2, 0, σ) from by unfold k_tool; first | (rw [if_pos c_6] <;> rfl) | simp only [if_pos c_6]]
    exact y_throw (e8 := 2) (tx := "kind or life") hx X hl9 xw_2 hX9 (List.mem_of_getElem? (i := 5) rfl) hex hlocks hl.1 hS (xb_ext (xb_rf hC hG ⟨rfl, rfl⟩)) (by decide) rfl dX8_tool_20 dX8_tool_23 dX8_tool_24 dX8_tool_26 dX8_tool_29 (Nat.le_of_ble_eq_true rfl) (Nat.le_of_ble_eq_true rfl) (Nat.le_of_ble_eq_true rfl) (Nat.le_of_ble_eq_true rfl) (Nat.le_of_ble_eq_true rfl) (Nat.le_of_ble_eq_true rfl)
  · refine lv_iload_n hx hb dX8_tool_9 rfl (lv_at hl 2 rfl) ?_
    refine lv_iconst (v := nI 1) hx hb dX8_tool_10 (by decide) ?_
    refine lv_sipush (v := nI 500) hx hb dX8_tool_11 (by decide) ?_
    refine rm_callSg X hK hG hS hA2 ysX8_isWithin ml_X8_105 [.int v2, .int (nI 1), .int (nI 500)] [] (c_X8_isWithin l L σ ow v2 (nI 1) (nI 500)) rfl hl.1 rfl (Nat.le_of_ble_eq_true rfl) ⟨Nat.le_of_ble_eq_true rfl, Nat.le_of_ble_eq_true rfl⟩ ⟨Nat.le_of_ble_eq_true rfl, Nat.le_of_ble_eq_true rfl⟩ dX8_tool_14 (fun H locs hG hS => ?_)
    refine r_top (y := b2i (1 ≤ v2.toInt ∧ v2.toInt ≤ 500)) (b2i_c (rg_i 1 500 rfl rfl)) ?_
    refine r_if_neB (tgt := 30) hx hb dX8_tool_17 (by decide) (fun c_17 => ?_) (fun c_17 => ?_)
    · refine lv_aload_n hx hb dX8_tool_30 rfl (lv_at hl 0 rfl) ?_
      refine gt_X8_12 X hK hG (cd_fix (by decide)) dX8_tool_31 ?_
      refine x_size X hK hG hS hA2 (cd_list (by decide)) ml_X8_65 hl.1 (Nat.le_of_ble_eq_true rfl) ⟨Nat.le_of_ble_eq_true rfl, Nat.le_of_ble_eq_true rfl⟩ ⟨Nat.le_of_ble_eq_true rfl, Nat.le_of_ble_eq_true rfl⟩ dX8_tool_34 (fun H locs hG hS => ?_)
      refine lv_bipush (v := nI 16) hx hb dX8_tool_37 (by decide) ?_
      refine r_icmp_ltN (tgt := 52) hx hb dX8_tool_39 (by decide) (by omega) (by omega) (fun c_39 => ?_) (fun c_39 => ?_)
      · rw [show k_tool v1 v2 σ = (0, nI (σ.1 1002 0), ladd 0 (σ.1 1002 0) (i_5 (σ.1 1002 0) (nI (σ.1 1002 0)) v1 (tn v2) σ)) from by unfold k_tool; first | (rw [if_neg (not_not_intro9 c_6), if_pos c_17, if_pos c_39] <;> rfl) | simp only [if_neg (not_not_intro9 c_6), if_pos c_17, if_pos c_39]]
        have hk16 : (σ.1 1002 0) < 16 := by omega
        refine lv_aload_n hx hb dX8_tool_52 rfl (lv_at hl 0 rfl) ?_
        refine gt_X8_12 X hK hG (cd_fix (by decide)) dX8_tool_53 ?_
        obtain ⟨a, ha⟩ : ∃ a, a = H.size := ⟨_, rfl⟩
        have hS0 := hS
        refine r_new X hK kX5 tw_3_21 rfl tw_3_22 tw_1_22 hS dfs_5 (Nat.le_of_ble_eq_true rfl) (Nat.le_of_ble_eq_true rfl) dX8_tool_56 (fun H1 hat hz hq hS => ?_)
        rw [← ha] at hat hz hq ⊢
        refine lv_dup hx hb dX8_tool_59 rfl ?_
        have hltL : ∀ F q, cdom σ F q → L F q < a := fun F q hd => by rw [ha]; exact (hG.1 F q hd).lt
        have hGc : PW D cI cZ cO (cdom σ) L σ ow H1 := hG.kept2 (fun F k hd => hq _ (hltL F k hd))
        have hzc : a < H1.size := by omega
        refine lv_aload_n hx hb dX8_tool_60 rfl (lv_at hl 0 rfl) ?_
        refine gt_X8_12 X hK hGc (cd_fix (by decide)) dX8_tool_61 ?_
        refine x_sizeK X hK hGc hS hA2 (cd_list (by decide)) ml_X8_65 hl.1 (Nat.le_of_ble_eq_true rfl) ⟨Nat.le_of_ble_eq_true rfl, Nat.le_of_ble_eq_true rfl⟩ ⟨Nat.le_of_ble_eq_true rfl, Nat.le_of_ble_eq_true rfl⟩ dX8_tool_64 (fun H3 locs hGc hz3 hk3 hS => ?_)
        have hat := hat.kept (hk3 a hzc (fun F k hd e9 => absurd (hltL F k hd) (by omega)))
        have hzc : a < H3.size := by omega
        refine lv_iload_n hx hb dX8_tool_67 rfl (lv_at hl 1 rfl) ?_
        refine lv_iload_n hx hb dX8_tool_68 rfl (lv_at hl 2 rfl) ?_
        refine r_top (y := nI (tn v2)) (ix_eq (n := 501) (by have := c_17; exact ⟨by omega, by omega⟩)) ?_
        obtain ⟨z9, hz9⟩ : ∃ z, z = H3.size := ⟨_, rfl⟩
        have haz : a < z9 := by rw [hz9]; exact hzc
        have hLo : ∀ F q, ¬ (F / 100 = 5 ∧ q = (σ.1 1002 0)) → (newL 5 (σ.1 1002 0) a z9 3 L) F q = L F q := fun F q h => newL_o h
        have eA : (newL 5 (σ.1 1002 0) a z9 3 L) 599 (σ.1 1002 0) = a := newL_n (C := 5) (F := 599) rfl
        have hM := nX5_init (D := D) (cI := cI) (cZ := cZ) (cO := cO) l (newL 5 (σ.1 1002 0) a z9 3 L) (i_5 (σ.1 1002 0) (nI (σ.1 1002 0)) v1 (tn v2) σ) (σ.1 1002 0) z9 (nI (σ.1 1002 0)) v1 (tn v2) (fun z hz => by
            simp only [List.mem_cons, List.not_mem_nil, or_false] at hz
            rcases hz with rfl <;> exact newL_n (C := 5) rfl)
            (fun F hF i => by simp only [List.mem_cons, List.not_mem_nil, or_false] at hF; rcases hF with rfl <;> simp [i_5, wN, wI, wR, wRA, up2, up1])
            (by simp [i_5, wN, wI, wR, wRA, up2, up1])
            (by simp [i_5, wN, wI, wR, wRA, up2, up1])
            (by simp [i_5, wN, wI, wR, wRA, up2, up1])
            (by simp [i_5, wN, wI, wR, wRA, up2, up1])
            (by simp [i_5, wN, wI, wR, wRA, up2, up1])
            (by simp [i_5, wN, wI, wR, wRA, up2, up1])
            (by simp [i_5, wN, wI, wR, wRA, up2, up1])
        rw [eA] at hM
        refine r_ctorI (As := [.int (nI (σ.1 1002 0)), .int v1, .int (nI (tn v2))]) (na := 3) (rest := [.ref a, .ref (L 1099 0)]) X hK hat hz9.symm hS (fun q h => h.elim (fun z => Or.inr (by rw [z, ha]; exact hS0.1)) (fun z => Or.inr (by have := hS0.1; omega))) tw_3_24 tw_1_22 tw_3_25 ml_X8_116 rfl ⟨by decide +kernel, by decide +kernel, by decide +kernel⟩ hM rfl rfl rfl hl.1 rfl (Nat.le_of_ble_eq_true rfl) ⟨Nat.le_of_ble_eq_true rfl, Nat.le_of_ble_eq_true rfl⟩ ⟨Nat.le_of_ble_eq_true rfl, Nat.le_of_ble_eq_true rfl⟩ dX8_tool_69 (fun H2 locs hGn hPz hsz2 hq2 hS => ?_)
        have hoff : Off 5 (σ.1 1002 0) σ (i_5 (σ.1 1002 0) (nI (σ.1 1002 0)) v1 (tn v2) σ) := i_5_off
        have hGb := pw_beside (nl := [599, 503]) (o := 3) (by decide) (show cj 5 = 0 from rfl) rfl hI hGc hoff hltL haz hq2 (by decide) hGn
        have hcap := hI.1 0 (by decide)
        have eN : (i_5 (σ.1 1002 0) (nI (σ.1 1002 0)) v1 (tn v2) σ).1 1002 0 = (σ.1 1002 0) := (hoff 1002 0 (by omega)).1.1
        have eC : (i_5 (σ.1 1002 0) (nI (σ.1 1002 0)) v1 (tn v2) σ).1 1003 0 = σ.1 1003 0 := (hoff 1003 0 (by omega)).1.1
        have eAl : (i_5 (σ.1 1002 0) (nI (σ.1 1002 0)) v1 (tn v2) σ).2.2.1 1001 0 = σ.2.2.1 1001 0 := (hoff 1001 0 (by omega)).2.1
        rw [← eA, ← hLo 1099 0 (by omega)]
        refine pw_add X hK hGb hS (fun q h => h.elim (fun z => z.elim Or.inl (fun y => y.elim (fun w => Or.inr (by rw [w, ha]; exact hS0.1)) (fun w => Or.inr (by have := hS0.1; omega)))) Or.inr) hE (j := 0) (x := (σ.1 1002 0)) (M := 1) (S := 60) (lok_new (by decide) (lok_of ⟨hGc, hC.2⟩ hI (by decide)) hoff hLo (by decide)) (Or.inr (List.mem_map.mpr ⟨599, by decide, rfl⟩)) kX5 rfl (by decide) (fun i hi => Or.inl (by rw [eAl]; exact hel_of hI (j := 0) (by decide) i (by rw [eN] at hi; exact hi))) (fun _ => ⟨Nat.le_refl _, by decide⟩) (fun z => ⟨Nat.le_refl _, by rw [eN, eC] at z; rw [eC]; omega⟩) ml_X8_58 hl.1 (Nat.le_of_ble_eq_true rfl) ⟨Nat.le_of_ble_eq_true rfl, Nat.le_of_ble_eq_true rfl⟩ ⟨Nat.le_of_ble_eq_true rfl, Nat.le_of_ble_eq_true rfl⟩ dX8_tool_72 (fun b H locs hG3 hAb hS => ?_)
        refine lv_pop hx hb dX8_tool_75 rfl ?_
        obtain ⟨L3, ow3, hL3, hO3, hC3⟩ := xb_new (sz := s.heap.size) (b := b) (nl := [599, 503]) (by decide) (show cj 5 = 0 from rfl) (by decide) ⟨by decide, by decide⟩ rfl ⟨hGc, hC.2⟩ hI (fun F hF h => hinj_5 F hF h) (fun f hf h => hnl_5 f hf h) hoff hLo hG3 (fun q h => h.elim (fun z => z.elim Or.inl (fun y => y.elim (fun w => Or.inr (by rw [w, ha]; exact hS0.1)) (fun w => Or.inr (by have := hS0.1; omega)))) (fun z => by rw [z]; exact hAb))
        have hN : (ladd 0 (σ.1 1002 0) (i_5 (σ.1 1002 0) (nI (σ.1 1002 0)) v1 (tn v2) σ)).1 1002 0 = (σ.1 1002 0) + 1 := by rw [ladd_N, eN]
        rw [show L 899 0 = L3 899 0 from (hL3 899 0 (cd_fix (by decide)) (by decide)).symm] at hl
        refine lv_aload_n hx hb dX8_tool_76 rfl (lv_at hl 0 rfl) ?_
        refine gt_X8_12 X hK hC3.1 (cd_fix (by decide)) dX8_tool_77 ?_
        refine x_size X hK hC3.1 hS (fun q h => h.elim (hO3 q) Or.inr) (cd_list (by decide)) ml_X8_65 hl.1 (Nat.le_of_ble_eq_true rfl) ⟨Nat.le_of_ble_eq_true rfl, Nat.le_of_ble_eq_true rfl⟩ ⟨Nat.le_of_ble_eq_true rfl, Nat.le_of_ble_eq_true rfl⟩ dX8_tool_80 (fun H locs hG4 hS => ?_)
        rw [hN]
        refine lv_iconst (v := nI 1) hx hb dX8_tool_83 (by decide) ?_
        refine r_subN hx hb (by omega) dX8_tool_84 ?_
        exact y_reti hx hb hr hlocks ⟨L3, ow3, hL3, hO3, hG4, hC3.2⟩ hS (by rw [Nat.add_sub_cancel]) rfl rfl (Nat.le_of_ble_eq_true rfl) (Nat.le_of_ble_eq_true rfl) dX8_tool_85
      · rw [show k_tool v1 v2 σ = (3, 0, σ) from by unfold k_tool; first | (rw [if_neg (not_not_intro9 c_6), if_pos c_17, if_neg (Nat.not_lt.mpr c_39)] <;> rfl) | simp only [if_neg (not_not_intro9 c_6), if_pos c_17, if_neg (Nat.not_lt.mpr c_39)]]
        exact y_throw (e8 := 3) (tx := "no more tools") hx X hl9 xw_3 hX9 (List.mem_of_getElem? (i := 6) rfl) hex hlocks hl.1 hS (xb_ext (xb_rf hC hG ⟨rfl, rfl⟩)) (by decide) rfl dX8_tool_42 dX8_tool_45 dX8_tool_46 dX8_tool_48 dX8_tool_51 (Nat.le_of_ble_eq_true rfl) (Nat.le_of_ble_eq_true rfl) (Nat.le_of_ble_eq_true rfl) (Nat.le_of_ble_eq_true rfl) (Nat.le_of_ble_eq_true rfl) (Nat.le_of_ble_eq_true rfl)
    · rw [show k_tool v1 v2 σ = (2, 0, σ) from by unfold k_tool; first | (rw [if_neg (not_not_intro9 c_6), if_neg c_17] <;> rfl) | simp only [if_neg (not_not_intro9 c_6), if_neg c_17]]
      exact y_throw (e8 := 2) (tx := "kind or life") hx X hl9 xw_2 hX9 (List.mem_of_getElem? (i := 5) rfl) hex hlocks hl.1 hS (xb_ext (xb_rf hC hG ⟨rfl, rfl⟩)) (by decide) rfl dX8_tool_20 dX8_tool_23 dX8_tool_24 dX8_tool_26 dX8_tool_29 (Nat.le_of_ble_eq_true rfl) (Nat.le_of_ble_eq_true rfl) (Nat.le_of_ble_eq_true rfl) (Nat.le_of_ble_eq_true rfl) (Nat.le_of_ble_eq_true rfl) (Nat.le_of_ble_eq_true rfl)
def k_pallet (v1 : Int32) (σ : St) : Nat × Int32 × St := if 1 ≤ v1.toInt ∧ v1.toInt ≤ 9 then (if (σ.1 1002 1) < 6 then ((0, nI (σ.1 1002 1), ladd 1 (σ.1 1002 1) (m_fill 203 (σ.1 1002 1) (-1) 144 (m_fill 202 (σ.1 1002 1) (-1) 144 (m_fill 201 (σ.1 1002 1) (nI 1000 * v1) 144 (m_fill 200 (σ.1 1002 1) v1 144 (i_2 (σ.1 1002 1) σ))))))) else ((3, 0, σ))) else ((2, 0, σ))
set_option maxRecDepth 100000 in
set_option maxHeartbeats 8000000 in
theorem y_X8_pallet {D : va_G} {cI cZ cO : ClassId} {t0 mi : Nat} (l : Launch) (hl9 : l.stackTraces = false) (L : Lay) (σ : St) (ow : Nat → Prop) (v1 : Int32) (hI : CI σ) : YI D cI cZ cO t0 mi l yX8_pallet cX8_pallet 2 ((some FieldType.int)) 10 300 8 800 [.ref (L 899 0), .int v1] L σ ow (k_pallet v1 σ).1 (k_pallet v1 σ).2.1 (k_pallet v1 σ).2.2 := by
  refine y_of (Qc := fun sz => YQi (k_pallet v1 σ).1 (k_pallet v1 σ).2.1 (XB D cI cZ cO t0 L σ ow sz (k_pallet v1 σ).2.2) (AA ow sz)) (XC := fun sz => YX (k_pallet v1 σ).1 (XB D cI cZ cO t0 L σ ow sz (k_pallet v1 σ).2.2) (AA ow sz)) rfl (Nat.le_of_ble_eq_true rfl) ?_
  intro p e s m args below meth c ls X hex hK hC hE hX9 hr hlocks hl
  have X : CallFix p m c cX8_pallet 2 s _ TB RX8 := X
  have hx := X.1
  have hb := X.2.1
  have hS : va_S (AA ow s.heap.size) s.heap s.heap [] := va_S.rf
  have hA : ∀ q, ow q → AA ow s.heap.size q := fun _ h => Or.inl h
  have hA2 : ∀ q, AA ow s.heap.size q → AA ow s.heap.size q := fun _ h => h
  have hG := hC.1
  have hc16 := hI.1 1 (by decide)
  have hl : lv_has ls 2 [(0, .ref (L 899 0)), (1, .int v1)] := hl
  refine lv_iload_n hx hb dX8_pallet_0 rfl (lv_at hl 1 rfl) ?_
  refine lv_iconst (v := nI 1) hx hb dX8_pallet_1 (by decide) ?_
  refine lv_bipush (v := nI 9) hx hb dX8_pallet_2 (by decide) ?_
  refine rm_callSg X hK hG hS hA2 ysX8_isWithin ml_X8_105 [.int v1, .int (nI 1), .int (nI 9)] [] (c_X8_isWithin l L σ ow v1 (nI 1) (nI 9)) rfl hl.1 rfl (Nat.le_of_ble_eq_true rfl) ⟨Nat.le_of_ble_eq_true rfl, Nat.le_of_ble_eq_true rfl⟩ ⟨Nat.le_of_ble_eq_true rfl, Nat.le_of_ble_eq_true rfl⟩ dX8_pallet_4 (fun H locs hG hS => ?_)
  refine r_top (y := b2i (1 ≤ v1.toInt ∧ v1.toInt ≤ 9)) (b2i_c (rg_i 1 9 rfl rfl)) ?_
  refine r_if_neB (tgt := 20) hx hb dX8_pallet_7 (by decide) (fun c_7 => ?_) (fun c_7 => ?_)
  · refine lv_aload_n hx hb dX8_pallet_20 rfl (lv_at hl 0 rfl) ?_
    refine gt_X8_16 X hK hG (cd_fix (by decide)) dX8_pallet_21 ?_
    refine x_size X hK hG hS hA2 (cd_list (by decide)) ml_X8_65 hl.1 (Nat.le_of_ble_eq_true rfl) ⟨Nat.le_of_ble_eq_true rfl, Nat.le_of_ble_eq_true rfl⟩ ⟨Nat.le_of_ble_eq_true rfl, Nat.le_of_ble_eq_true rfl⟩ dX8_pallet_24 (fun H locs hG hS => ?_)
    refine lv_bipush (v := nI 6) hx hb dX8_pallet_27 (by decide) ?_
    refine r_icmp_ltN (tgt := 42) hx hb dX8_pallet_29 (by decide) (by omega) (by omega) (fun c_29 => ?_) (fun c_29 => ?_)
    · rw [show k_pallet v1 σ = (0, nI (σ.1 1002 1), ladd 1 (σ.1 1002 1) (m_fill 203 (σ.1 1002 1) (-1) 144 (m_fill 202 (σ.1 1002 1) (-1) 144 (m_fill 201 (σ.1 1002 1) (nI 1000 * v1) 144 (m_fill 200 (σ.1 1002 1) v1 144 (i_2 (σ.1 1002 1) σ)))))) from by unfold k_pallet; first | (rw [if_pos c_7, if_pos c_29] <;> rfl) | simp only [if_pos c_7, if_pos c_29]]
      have hk16 : (σ.1 1002 1) < 6 := by omega
      refine lv_aload_n hx hb dX8_pallet_42 rfl (lv_at hl 0 rfl) ?_
      refine gt_X8_16 X hK hG (cd_fix (by decide)) dX8_pallet_43 ?_
      obtain ⟨a, ha⟩ : ∃ a, a = H.size := ⟨_, rfl⟩
      have hS0 := hS
      refine r_new X hK kX2 tw_2_156 rfl tw_2_157 tw_1_18 hS dfs_2 (Nat.le_of_ble_eq_true rfl) (Nat.le_of_ble_eq_true rfl) dX8_pallet_46 (fun H1 hat hz hq hS => ?_)
      rw [← ha] at hat hz hq ⊢
      refine lv_dup hx hb dX8_pallet_49 rfl ?_
      have hltL : ∀ F q, cdom σ F q → L F q < a := fun F q hd => by rw [ha]; exact (hG.1 F q hd).lt
      have hGc : PW D cI cZ cO (cdom σ) L σ ow H1 := hG.kept2 (fun F k hd => hq _ (hltL F k hd))
      have hzc : a < H1.size := by omega
      refine lv_iload_n hx hb dX8_pallet_50 rfl (lv_at hl 1 rfl) ?_
      obtain ⟨z9, hz9⟩ : ∃ z, z = H1.size := ⟨_, rfl⟩
      have haz : a < z9 := by rw [hz9]; exact hzc
      have hLo : ∀ F q, ¬ (F / 100 = 2 ∧ q = (σ.1 1002 1)) → (newL 2 (σ.1 1002 1) a z9 0 L) F q = L F q := fun F q h => newL_o h
      have eA : (newL 2 (σ.1 1002 1) a z9 0 L) 299 (σ.1 1002 1) = a := newL_n (C := 2) (F := 299) rfl
      have hM := nX2_init (D := D) (cI := cI) (cZ := cZ) (cO := cO) l (newL 2 (σ.1 1002 1) a z9 0 L) (i_2 (σ.1 1002 1) σ) (σ.1 1002 1) z9 v1 (fun z hz => by
          simp only [List.mem_cons, List.not_mem_nil, or_false] at hz
          rcases hz with rfl | rfl | rfl | rfl | rfl <;> exact newL_n (C := 2) rfl)
          (fun F hF i => by simp only [List.mem_cons, List.not_mem_nil, or_false] at hF; rcases hF with rfl | rfl | rfl | rfl | rfl <;> simp [i_2, wN, wI, wR, wRA, up2, up1])
          (by simp [i_2, wN, wI, wR, wRA, up2, up1])
          (by simp [i_2, wN, wI, wR, wRA, up2, up1])
          (by simp [i_2, wN, wI, wR, wRA, up2, up1])
          (by simp [i_2, wN, wI, wR, wRA, up2, up1])
          (by simp [i_2, wN, wI, wR, wRA, up2, up1])
      rw [eA] at hM
      refine r_ctorI (As := [.int v1]) (na := 1) (rest := [.ref a, .ref (L 1099 1)]) X hK hat hz9.symm hS (fun q h => h.elim (fun z => Or.inr (by rw [z, ha]; exact hS0.1)) (fun z => Or.inr (by have := hS0.1; omega))) tw_2_159 tw_1_18 tw_2_160 ml_X8_138 rfl ⟨by decide +kernel, by decide +kernel, by decide +kernel⟩ hM rfl rfl rfl hl.1 rfl (Nat.le_of_ble_eq_true rfl) ⟨Nat.le_of_ble_eq_true rfl, Nat.le_of_ble_eq_true rfl⟩ ⟨Nat.le_of_ble_eq_true rfl, Nat.le_of_ble_eq_true rfl⟩ dX8_pallet_51 (fun H2 locs hGn hPz hsz2 hq2 hS => ?_)
      have hoff : Off 2 (σ.1 1002 1) σ (m_fill 203 (σ.1 1002 1) (-1) 144 (m_fill 202 (σ.1 1002 1) (-1) 144 (m_fill 201 (σ.1 1002 1) (nI 1000 * v1) 144 (m_fill 200 (σ.1 1002 1) v1 144 (i_2 (σ.1 1002 1) σ))))) := ((((i_2_off.tr (off_fill (C := 2) (F0 := 200) (by decide) 144)).tr (off_fill (C := 2) (F0 := 201) (by decide) 144)).tr (off_fill (C := 2) (F0 := 202) (by decide) 144)).tr (off_fill (C := 2) (F0 := 203) (by decide) 144))
      have hGb := pw_beside (nl := [299, 204, 203, 202, 201, 200]) (o := 0) (by decide) (show cj 2 = 1 from rfl) rfl hI hGc hoff hltL haz hq2 (by decide) hGn
      have hcap := hI.1 1 (by decide)
      have eN : (m_fill 203 (σ.1 1002 1) (-1) 144 (m_fill 202 (σ.1 1002 1) (-1) 144 (m_fill 201 (σ.1 1002 1) (nI 1000 * v1) 144 (m_fill 200 (σ.1 1002 1) v1 144 (i_2 (σ.1 1002 1) σ))))).1 1002 1 = (σ.1 1002 1) := (hoff 1002 1 (by omega)).1.1
      have eC : (m_fill 203 (σ.1 1002 1) (-1) 144 (m_fill 202 (σ.1 1002 1) (-1) 144 (m_fill 201 (σ.1 1002 1) (nI 1000 * v1) 144 (m_fill 200 (σ.1 1002 1) v1 144 (i_2 (σ.1 1002 1) σ))))).1 1003 1 = σ.1 1003 1 := (hoff 1003 1 (by omega)).1.1
      have eAl : (m_fill 203 (σ.1 1002 1) (-1) 144 (m_fill 202 (σ.1 1002 1) (-1) 144 (m_fill 201 (σ.1 1002 1) (nI 1000 * v1) 144 (m_fill 200 (σ.1 1002 1) v1 144 (i_2 (σ.1 1002 1) σ))))).2.2.1 1001 1 = σ.2.2.1 1001 1 := (hoff 1001 1 (by omega)).2.1
      rw [← eA, ← hLo 1099 1 (by omega)]
      refine pw_add X hK hGb hS (fun q h => h.elim (fun z => z.elim Or.inl (fun y => y.elim (fun w => Or.inr (by rw [w, ha]; exact hS0.1)) (fun w => Or.inr (by have := hS0.1; omega)))) Or.inr) hE (j := 1) (x := (σ.1 1002 1)) (M := 1) (S := 60) (lok_new (by decide) (lok_of ⟨hGc, hC.2⟩ hI (by decide)) hoff hLo (by decide)) (Or.inr (List.mem_map.mpr ⟨299, by decide, rfl⟩)) kX2 rfl (by decide) (fun i hi => Or.inl (by rw [eAl]; exact hel_of hI (j := 1) (by decide) i (by rw [eN] at hi; exact hi))) (fun _ => ⟨Nat.le_refl _, by decide⟩) (fun z => ⟨Nat.le_refl _, by rw [eN, eC] at z; rw [eC]; omega⟩) ml_X8_58 hl.1 (Nat.le_of_ble_eq_true rfl) ⟨Nat.le_of_ble_eq_true rfl, Nat.le_of_ble_eq_true rfl⟩ ⟨Nat.le_of_ble_eq_true rfl, Nat.le_of_ble_eq_true rfl⟩ dX8_pallet_54 (fun b H locs hG3 hAb hS => ?_)
      refine lv_pop hx hb dX8_pallet_57 rfl ?_
      obtain ⟨L3, ow3, hL3, hO3, hC3⟩ := xb_new (sz := s.heap.size) (b := b) (nl := [299, 204, 203, 202, 201, 200]) (by decide) (show cj 2 = 1 from rfl) (by decide) ⟨by decide, by decide⟩ rfl ⟨hGc, hC.2⟩ hI (fun F hF h => hinj_2 F hF h) (fun f hf h => hnl_2 f hf h) hoff hLo hG3 (fun q h => h.elim (fun z => z.elim Or.inl (fun y => y.elim (fun w => Or.inr (by rw [w, ha]; exact hS0.1)) (fun w => Or.inr (by have := hS0.1; omega)))) (fun z => by rw [z]; exact hAb))
      have hN : (ladd 1 (σ.1 1002 1) (m_fill 203 (σ.1 1002 1) (-1) 144 (m_fill 202 (σ.1 1002 1) (-1) 144 (m_fill 201 (σ.1 1002 1) (nI 1000 * v1) 144 (m_fill 200 (σ.1 1002 1) v1 144 (i_2 (σ.1 1002 1) σ)))))).1 1002 1 = (σ.1 1002 1) + 1 := by rw [ladd_N, eN]
      rw [show L 899 0 = L3 899 0 from (hL3 899 0 (cd_fix (by decide)) (by decide)).symm] at hl
      refine lv_aload_n hx hb dX8_pallet_58 rfl (lv_at hl 0 rfl) ?_
      refine gt_X8_16 X hK hC3.1 (cd_fix (by decide)) dX8_pallet_59 ?_
      refine x_size X hK hC3.1 hS (fun q h => h.elim (hO3 q) Or.inr) (cd_list (by decide)) ml_X8_65 hl.1 (Nat.le_of_ble_eq_true rfl) ⟨Nat.le_of_ble_eq_true rfl, Nat.le_of_ble_eq_true rfl⟩ ⟨Nat.le_of_ble_eq_true rfl, Nat.le_of_ble_eq_true rfl⟩ dX8_pallet_62 (fun H locs hG4 hS => ?_)
      rw [hN]
      refine lv_iconst (v := nI 1) hx hb dX8_pallet_65 (by decide) ?_
      refine r_subN hx hb (by omega) dX8_pallet_66 ?_
      exact y_reti hx hb hr hlocks ⟨L3, ow3, hL3, hO3, hG4, hC3.2⟩ hS (by rw [Nat.add_sub_cancel]) rfl rfl (Nat.le_of_ble_eq_true rfl) (Nat.le_of_ble_eq_true rfl) dX8_pallet_67
    · rw [show k_pallet v1 σ = (3, 0, σ) from by unfold k_pallet; first | (rw [if_pos c_7, if_neg (Nat.not_lt.mpr c_29)] <;> rfl) | simp only [if_pos c_7, if_neg (Nat.not_lt.mpr c_29)]]
      exact y_throw (e8 := 3) (tx := "no more pallets") hx X hl9 xw_3 hX9 (List.mem_of_getElem? (i := 10) rfl) hex hlocks hl.1 hS (xb_ext (xb_rf hC hG ⟨rfl, rfl⟩)) (by decide) rfl dX8_pallet_32 dX8_pallet_35 dX8_pallet_36 dX8_pallet_38 dX8_pallet_41 (Nat.le_of_ble_eq_true rfl) (Nat.le_of_ble_eq_true rfl) (Nat.le_of_ble_eq_true rfl) (Nat.le_of_ble_eq_true rfl) (Nat.le_of_ble_eq_true rfl) (Nat.le_of_ble_eq_true rfl)
  · rw [show k_pallet v1 σ = (2, 0, σ) from by unfold k_pallet; first | (rw [if_neg c_7] <;> rfl) | simp only [if_neg c_7]]
    exact y_throw (e8 := 2) (tx := "stock") hx X hl9 xw_2 hX9 (List.mem_of_getElem? (i := 9) rfl) hex hlocks hl.1 hS (xb_ext (xb_rf hC hG ⟨rfl, rfl⟩)) (by decide) rfl dX8_pallet_10 dX8_pallet_13 dX8_pallet_14 dX8_pallet_16 dX8_pallet_19 (Nat.le_of_ble_eq_true rfl) (Nat.le_of_ble_eq_true rfl) (Nat.le_of_ble_eq_true rfl) (Nat.le_of_ble_eq_true rfl) (Nat.le_of_ble_eq_true rfl) (Nat.le_of_ble_eq_true rfl)
