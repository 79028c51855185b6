section PLA
variable {D : va_G} {cI cZ cO : ClassId} {dom : Nat → Nat → Prop} {L L' : Lay} {σ σ' : St} {ow A : Nat → Prop} {t0 mi : Nat}
variable {p : Program} {l : Launch} {e : Env} {R : Room} {s : State} {m : MethodId} {args : Array Value} {below : List Frame} {meth : Method} {c : Code} {H H0 : Heap} {locs : List Loc} {cells slots : Nat} {Q : State → Prop}
variable {cc : ByteArray} {pc nL : Nat} {ls : Array Slot} {rest st0 : List Value} {own : String}
theorem els_of {j n C : Nat} (hG : PW D cI cZ cO dom L σ ow H) (hd : dom 1099 j) (hd1 : dom 1001 j) (hC : 100 * C + 99 = fel j) (hel : ∀ i, i < σ.1 1002 j → dom (fel j) (σ.2.2.1 1001 j i)) (hn : n = σ.1 1002 j) : ∀ i, i < n → ∀ y, lrefs L σ j i = some y → y ≠ L 1099 j ∧ y ≠ L 1001 j ∧ ∃ vs, va_at D vwCl (y, .inr (vix C, vs)) H := fun i hi y hy => by
  subst hn
  unfold lrefs at hy
  rw [if_pos hi] at hy
  cases hy
  have hdi := hel i hi
  refine ⟨fun z => (fel_ne j).2 (hG.2.1 _ _ _ _ hdi hd z).1, fun z => (fel_ne j).1 (hG.2.1 _ _ _ _ hdi hd1 z).1, ofl L σ C (σ.2.2.1 1001 j i), ?_⟩
  have := hG.1 _ _ hdi
  rw [← hC, ent_o] at this
  rw [← hC]
  exact this
theorem pw_add (X : CallFix p m c cc nL s args TB own) (hK : KK D cI cZ cO s) (hG : PW D cI cZ cO dom L σ ow H) (hS : va_S A s.heap H locs) (hA : ∀ q, AA ow s.heap.size q → A q) (hE : EE t0 mi A s s.heap) {j x M S C idx : Nat} (hLk : LOK dom L σ t0 j) (hx : dom (fel j) x) {RC : String} {T : u_T} {ty : Nat → FieldType} (kc : KC C RC T ty) (hC : 100 * C + 99 = fel j) (hRC : RC ∈ [RX0, RX1, RX2, RX3, RX4, RX5]) (hel : ∀ i, i < σ.1 1002 j → dom (fel j) (σ.2.2.1 1001 j i)) (hS10 : σ.1 1003 j = 0 → 1 ≤ M ∧ 10 ≤ S) (hSg : σ.1 1002 j = σ.1 1003 j → 1 ≤ M ∧ σ.1 1003 j + σ.1 1003 j / 2 ≤ S)
    (hl : Cond.methodLink own idx yJx4a65c_add_9ea2d ∈ TB) (hls : ls.size = nL) (hrm : (rest.map fun v => v.category).sum ≤ 8) (hR : 7 ≤ R.frames ∧ 221 ≤ R.locals) (hc : cells + M ≤ R.cells ∧ slots + S ≤ R.slots) (d : decode cc pc = .ok (.invokevirtual idx, 3))
    (kk : ∀ (b : Nat) (H1 : Heap) (locs1 : List Loc), PW D cI cZ cO (fun F k => dom F k ∨ (F = 1001 ∧ k = j)) (up2 L 1001 j b) (ladd j x σ) (fun q => ow q ∨ q = b) H1 → A b → va_S A s.heap H1 locs1 → W p l e R s m args below meth c H1 locs1 (cells + M) (slots + S) Q (F0 m (pc + 3) ls (.int 1 :: rest))) : W p l e R s m args below meth c H locs cells slots Q (F0 m pc ls (.ref (L (fel j) x) :: .ref (L 1099 j) :: rest)) := by
  obtain ⟨hd, hnc, h5, hcs⟩ := hLk
  have hob := hG.1 _ _ hd
  rw [ent_10] at hob
  have hex := hG.1 _ _ hx
  rw [← hC, ent_o, hC] at hex
  have hqa : L (fel j) x ≠ L 1099 j := fun z => (fel_ne j).2 (hG.2.1 _ _ _ _ hx hd z).1
  have hHs : s.heap.size ≤ H.size := hS.1
  have hAa : A (L 1099 j) := hA _ (Or.inl (hG.2.2 _ _ hd))
  have hAn : ∀ q, H.size ≤ q → A q := fun q h => hA q (Or.inr (Nat.le_trans hHs h))
  rcases hcs with ⟨hc0, hLt, -⟩ | ⟨hc10, hd1⟩
  · have hn0 : σ.1 1002 j = 0 := by omega
    obtain ⟨hM1, hM2⟩ := hS10 hc0
    rw [hLt, hn0] at hob
    have hAA : ∀ q, lA (L 1099 j) (L 1099 j) H.size q → A q := fun q h => h.elim (fun z => by rw [z]; exact hAa) (fun h => h.elim (fun z => by rw [z]; exact hAa) (hAn q))
    refine va_calli (va_runV (As := [.ref (L (fel j) x)]) (rest := rest) X (c_addf (D := D) (cI := cI) (cZ := cZ) (cO := cO) (t0 := t0) (mi := mi) l (L 1099 j) (L (fel j) x) (vix C) H.size (σ.2.1 1000 j) (ofl L σ C x) (RC, T, (flds C).length) kc.1 hRC) (yv_cw X.2.2.2.2 yvJx4a65c_add_9ea2d hl rfl rfl ⟨Nat.le_trans (by decide) hR.1, Nat.le_trans (by decide) hR.2⟩) ⟨lpc_blind, pw_recv hK hG kJx4a65c rfl hd, lpc_pre hK ((hE.at hS).narrow hAA) ⟨va_P1 hob, hqa, hex⟩ rfl⟩ rfl rfl hls rfl (lv_room hrm) d ⟨by omega, by omega⟩) hS (fun q _ h => hAA q h) (fun q h => hAA q h) ?_
    intro r u t H1 locs1 ht _ hr hB hz hk hS1
    subst hr
    rw [ht] at hB
    obtain ⟨b, hbz, hP⟩ := hB
    refine W.widen (k := cells + M) (n := slots + S) (by omega) (by omega) ?_
    refine kk b H1 locs1 (pw_list hG hd (ladd_off j x b L σ) ?_ ?_ (fun q h1 h2 _ => hk q h1 (fun z => z.elim h2 (fun z => z.elim h2 (fun z => absurd h1 (Nat.not_lt.mpr z))))) (Or.inr (by rw [up2_s]; exact hbz)) up2_s) (hAn b hbz) hS1
    · rw [ent_10, ladd_I, ladd_N, up2_s, hn0]
      exact hP 0 _ rfl
    · rw [ent_l, ladd_C, ladd_refs (g := fun _ => none) (fun i => by rw [if_neg (by omega)]), up2_s, hn0, hc0]
      exact hP 1 _ rfl
  · have har := hG.1 _ _ hd1
    rw [ent_l] at har
    have hab : L 1099 j ≠ L 1001 j := fun z => absurd (hG.2.1 _ _ _ _ hd hd1 z).1 (by decide)
    have hqb : L (fel j) x ≠ L 1001 j := fun z => (fel_ne j).1 (hG.2.1 _ _ _ _ hx hd1 z).1
    have hAb : A (L 1001 j) := hA _ (Or.inl (hG.2.2 _ _ hd1))
    have hAA : ∀ q, lA (L 1099 j) (L 1001 j) H.size q → A q := fun q h => h.elim (fun z => by rw [z]; exact hAa) (fun h => h.elim (fun z => by rw [z]; exact hAb) (hAn q))
    by_cases hf : σ.1 1002 j = σ.1 1003 j
    · rw [← hf] at har
      obtain ⟨hM1, hS2⟩ := hSg hf
      rw [← hf] at hS2
      refine va_calli (va_runV (As := [.ref (L (fel j) x)]) (rest := rest) X (c_addg (D := D) (cI := cI) (cZ := cZ) (cO := cO) (t0 := t0) (mi := mi) l (L 1099 j) (L 1001 j) (L (fel j) x) (σ.1 1002 j) (vix C) H.size (σ.2.1 1000 j) (lrefs L σ j) (ofl L σ C x) (RC, T, (flds C).length) kc.1 hRC (by omega) (by omega)) (yv_cw X.2.2.2.2 yvJx4a65c_add_9ea2d hl rfl rfl ⟨hR.1, hR.2⟩) ⟨lpc_blind, pw_recv hK hG kJx4a65c rfl hd, lpc_pre hK ((hE.at hS).narrow hAA) ⟨(va_P1 hob).app (va_P1 har), hab, els_of hG hd hd1 hC hel rfl, hqa, hqb, hex⟩ rfl⟩ rfl rfl hls rfl (lv_room hrm) d ⟨by omega, by omega⟩) hS (fun q _ h => hAA q h) (fun q h => hAA q h) ?_
      intro r u t H1 locs1 ht _ hr hB hz hk hS1
      subst hr
      rw [ht] at hB
      obtain ⟨b, hbz, hP⟩ := hB
      refine W.widen (k := cells + M) (n := slots + S) (by omega) (by omega) ?_
      refine kk b H1 locs1 (pw_list hG hd (ladd_off j x b L σ) ?_ ?_ (fun q h1 h2 h3 => hk q h1 (fun z => z.elim h2 (fun z => z.elim (h3 hd1) (fun z => absurd h1 (Nat.not_lt.mpr z))))) (Or.inr (by rw [up2_s]; exact hbz)) up2_s) (hAn b hbz) hS1
      · rw [ent_10, ladd_I, ladd_N, up2_s]
        exact hP 0 _ rfl
      · rw [ent_l, ladd_C, ladd_refs (g := va_cpy (lrefs L σ j) (fun _ => none) 0 0 (σ.1 1002 j)) (fun i => ?_), up2_s, show lcap (σ.1 1002 j) (σ.1 1003 j) = σ.1 1002 j + σ.1 1002 j / 2 from by unfold lcap; rw [if_pos hf, if_neg (by omega), ← hf]]
        · exact hP 1 _ rfl
        · unfold va_cpy
          by_cases c : i < σ.1 1002 j
          · rw [if_pos ⟨Nat.zero_le _, by omega⟩, if_pos c, Nat.sub_zero, Nat.zero_add]
            unfold lrefs
            rw [if_pos c]
          · rw [if_neg (by omega), if_neg c]
    · refine va_calli (va_runV (As := [.ref (L (fel j) x)]) (rest := rest) X (c_addr (D := D) (cI := cI) (cZ := cZ) (cO := cO) (t0 := t0) (mi := mi) l (L 1099 j) (L 1001 j) (L (fel j) x) (σ.1 1002 j) (σ.1 1003 j) (vix C) H.size (σ.2.1 1000 j) (lrefs L σ j) (ofl L σ C x) (RC, T, (flds C).length) kc.1 hRC (by omega) (by omega)) (yv_cw X.2.2.2.2 yvJx4a65c_add_9ea2d hl rfl rfl ⟨Nat.le_trans (by decide) hR.1, Nat.le_trans (by decide) hR.2⟩) ⟨lpc_blind, pw_recv hK hG kJx4a65c rfl hd, lpc_pre hK ((hE.at hS).narrow hAA) ⟨(va_P1 hob).app (va_P1 har), hab, hqa, hqb, hex⟩ rfl⟩ rfl rfl hls rfl (lv_room hrm) d ⟨by omega, by omega⟩) hS (fun q _ h => hAA q h) (fun q h => hAA q h) ?_
      intro r u t H1 locs1 ht _ hr hB hz hk hS1
      subst hr
      rw [ht] at hB
      refine W.widen (k := cells + M) (n := slots + S) (by omega) (by omega) ?_
      refine kk (L 1001 j) H1 locs1 (pw_list hG hd (ladd_off j x (L 1001 j) L σ) ?_ ?_ (fun q h1 h2 h3 => hk q h1 (fun z => z.elim h2 (fun z => z.elim (h3 hd1) (fun z => absurd h1 (Nat.not_lt.mpr z))))) (Or.inl ⟨hd1, by rw [up2_s]⟩) up2_s) hAb hS1
      · rw [ent_10, ladd_I, ladd_N, up2_s]
        exact hB 0 _ rfl
      · rw [ent_l, ladd_C, ladd_refs (g := lrefs L σ j) (fun i => rfl), up2_s, show lcap (σ.1 1002 j) (σ.1 1003 j) = σ.1 1003 j from by unfold lcap; rw [if_neg hf]]
        exact hB 1 _ rfl
theorem pw_rem (X : CallFix p m c cc nL s args TB own) (hK : KK D cI cZ cO s) (hG : PW D cI cZ cO dom L σ ow H) (hS : va_S A s.heap H locs) (hA : ∀ q, AA ow s.heap.size q → A q) (hE : EE t0 mi A s s.heap) {j i C idx : Nat} (hLk : LOK dom L σ t0 j) {RC : String} {T : u_T} {ty : Nat → FieldType} (kc : KC C RC T ty) (hC : 100 * C + 99 = fel j) (hRC : RC ∈ [RX0, RX1, RX2, RX3, RX4, RX5]) (hel : ∀ i, i < σ.1 1002 j → dom (fel j) (σ.2.2.1 1001 j i)) (hi : i < σ.1 1002 j)
    (hl : Cond.methodLink own idx yJx4a65c_remove_915e3 ∈ TB) (hls : ls.size = nL) (hrm : (rest.map fun v => v.category).sum ≤ 8) (hR : 4 ≤ R.frames ∧ 123 ≤ R.locals) (hc : cells ≤ R.cells ∧ slots ≤ R.slots) (d : decode cc pc = .ok (.invokevirtual idx, 3))
    (kk : ∀ (H1 : Heap) (locs1 : List Loc), PW D cI cZ cO dom L (lrem j i σ) ow H1 → va_S A s.heap H1 locs1 → W p l e R s m args below meth c H1 locs1 cells slots Q (F0 m (pc + 3) ls (.ref (L (fel j) (σ.2.2.1 1001 j i)) :: rest))) : W p l e R s m args below meth c H locs cells slots Q (F0 m pc ls (.int (nI i) :: .ref (L 1099 j) :: rest)) := by
  obtain ⟨hd, hnc, h5, hcs⟩ := hLk
  have hob := hG.1 _ _ hd
  rw [ent_10] at hob
  have hHs : s.heap.size ≤ H.size := hS.1
  have hAa : A (L 1099 j) := hA _ (Or.inl (hG.2.2 _ _ hd))
  have hAn : ∀ q, H.size ≤ q → A q := fun q h => hA q (Or.inr (Nat.le_trans hHs h))
  rcases hcs with ⟨hc0, -, -⟩ | ⟨hc10, hd1⟩
  · exact absurd hi (by omega)
  · have har := hG.1 _ _ hd1
    rw [ent_l] at har
    have hab : L 1099 j ≠ L 1001 j := fun z => absurd (hG.2.1 _ _ _ _ hd hd1 z).1 (by decide)
    have hAb : A (L 1001 j) := hA _ (Or.inl (hG.2.2 _ _ hd1))
    have hAA : ∀ q, lA (L 1099 j) (L 1001 j) H.size q → A q := fun q h => h.elim (fun z => by rw [z]; exact hAa) (fun h => h.elim (fun z => by rw [z]; exact hAb) (hAn q))
    refine va_callr (va_runV (As := [.int (nI i)]) (rest := rest) X (c_rem (D := D) (cI := cI) (cZ := cZ) (cO := cO) (t0 := t0) (mi := mi) l (L 1099 j) (L 1001 j) (σ.1 1002 j) (σ.1 1003 j) i (L (fel j) (σ.2.2.1 1001 j i)) (vix C) H.size (σ.2.1 1000 j) (lrefs L σ j) (RC, T, (flds C).length) kc.1 hRC hi hnc (by omega) (if_pos hi)) (yv_cw X.2.2.2.2 yvJx4a65c_remove_915e3 hl rfl rfl ⟨hR.1, hR.2⟩) ⟨lpc_blind, pw_recv hK hG kJx4a65c rfl hd, lpc_pre hK ((hE.at hS).narrow hAA) ⟨(va_P1 hob).app (va_P1 har), hab, els_of hG hd hd1 hC hel rfl⟩ rfl⟩ rfl rfl hls rfl (lv_room hrm) d ⟨hc.1, hc.2⟩) hS (fun q _ h => hAA q h) (fun q h => hAA q h) ?_
    intro u ra t H1 locs1 ht _ _ hB hz hk hS1
    rw [ht] at hB
    obtain ⟨rfl, hP⟩ := hB
    refine kk H1 locs1 (pw_same (b := L 1001 j) (pw_list hG hd (lrem_off j i L σ) ?_ ?_ (fun q h1 h2 h3 => hk q h1 (fun z => z.elim h2 (fun z => z.elim (h3 hd1) (fun z => absurd h1 (Nat.not_lt.mpr z))))) (Or.inl ⟨hd1, rfl⟩) rfl) hG.2.2) hS1
    · rw [ent_10, lrem_I, lrem_N]
      exact hP 0 _ rfl
    · rw [ent_l, lrem_C, lrem_refs hi]
      exact hP 1 _ rfl
theorem pw_clr (X : CallFix p m c cc nL s args TB own) (hK : KK D cI cZ cO s) (hG : PW D cI cZ cO dom L σ ow H) (hS : va_S A s.heap H locs) (hA : ∀ q, AA ow s.heap.size q → A q) (hE : EE t0 mi A s s.heap) {j idx : Nat} (hLk : LOK dom L σ t0 j)
    (hl : Cond.methodLink own idx yJx4a65c_clear_da8c8 ∈ TB) (hls : ls.size = nL) (hrm : (rest.map fun v => v.category).sum ≤ 8) (hR : 1 ≤ R.frames ∧ 23 ≤ R.locals) (hc : cells ≤ R.cells ∧ slots ≤ R.slots) (d : decode cc pc = .ok (.invokevirtual idx, 3))
    (kk : ∀ (H1 : Heap) (locs1 : List Loc), PW D cI cZ cO dom L (lclr j σ) ow H1 → va_S A s.heap H1 locs1 → W p l e R s m args below meth c H1 locs1 cells slots Q (F0 m (pc + 3) ls rest)) : W p l e R s m args below meth c H locs cells slots Q (F0 m pc ls (.ref (L 1099 j) :: rest)) := by
  obtain ⟨hd, hnc, h5, hcs⟩ := hLk
  have hob := hG.1 _ _ hd
  rw [ent_10] at hob
  have hHs : s.heap.size ≤ H.size := hS.1
  have hAa : A (L 1099 j) := hA _ (Or.inl (hG.2.2 _ _ hd))
  have hAn : ∀ q, H.size ≤ q → A q := fun q h => hA q (Or.inr (Nat.le_trans hHs h))
  rcases hcs with ⟨hc0, hLt, hnd⟩ | ⟨hc10, hd1⟩
  · have hn0 : σ.1 1002 j = 0 := by omega
    rw [hLt, hn0] at hob
    have hAA : ∀ q, lA (L 1099 j) (L 1099 j) H.size q → A q := fun q h => h.elim (fun z => by rw [z]; exact hAa) (fun h => h.elim (fun z => by rw [z]; exact hAa) (hAn q))
    refine va_callv (va_runV (As := []) (rest := rest) X (c_clr0 (D := D) (cI := cI) (cZ := cZ) (cO := cO) (t0 := t0) (mi := mi) l (L 1099 j) H.size (σ.2.1 1000 j)) (yv_cw X.2.2.2.2 yvJx4a65c_clear_da8c8 hl rfl rfl ⟨hR.1, hR.2⟩) ⟨lpc_blind, pw_recv hK hG kJx4a65c rfl hd, lpc_pre hK ((hE.at hS).narrow hAA) (va_P1 hob) rfl⟩ rfl rfl hls rfl (lv_room hrm) d ⟨hc.1, hc.2⟩) hS (fun q _ h => hAA q h) (fun q h => hAA q h) ?_
    intro u t H1 locs1 ht _ _ hB hz hk hS1
    rw [ht] at hB
    refine kk H1 locs1 (pw_obj hG hd hnd (lclr_off j L σ) ?_ (fun q h1 h2 => hk q h1 (fun z => z.elim h2 (fun z => z.elim h2 (fun z => absurd h1 (Nat.not_lt.mpr z)))))) hS1
    rw [ent_10, lclr_I, lclr_N, hLt]
    exact hB 0 _ rfl
  · have har := hG.1 _ _ hd1
    rw [ent_l] at har
    have hab : L 1099 j ≠ L 1001 j := fun z => absurd (hG.2.1 _ _ _ _ hd hd1 z).1 (by decide)
    have hAb : A (L 1001 j) := hA _ (Or.inl (hG.2.2 _ _ hd1))
    have hAA : ∀ q, lA (L 1099 j) (L 1001 j) H.size q → A q := fun q h => h.elim (fun z => by rw [z]; exact hAa) (fun h => h.elim (fun z => by rw [z]; exact hAb) (hAn q))
    refine va_callv (va_runV (As := []) (rest := rest) X (c_clr (D := D) (cI := cI) (cZ := cZ) (cO := cO) (t0 := t0) (mi := mi) l (L 1099 j) (L 1001 j) (σ.1 1002 j) (σ.1 1003 j) H.size (σ.2.1 1000 j) (lrefs L σ j) hnc (by omega)) (yv_cw X.2.2.2.2 yvJx4a65c_clear_da8c8 hl rfl rfl ⟨hR.1, hR.2⟩) ⟨lpc_blind, pw_recv hK hG kJx4a65c rfl hd, lpc_pre hK ((hE.at hS).narrow hAA) ⟨(va_P1 hob).app (va_P1 har), hab⟩ rfl⟩ rfl rfl hls rfl (lv_room hrm) d ⟨hc.1, hc.2⟩) hS (fun q _ h => hAA q h) (fun q h => hAA q h) ?_
    intro u t H1 locs1 ht _ _ hB hz hk hS1
    rw [ht] at hB
    refine kk H1 locs1 (pw_same (b := L 1001 j) (pw_list hG hd (lclr_off j L σ) ?_ ?_ (fun q h1 h2 h3 => hk q h1 (fun z => z.elim h2 (fun z => z.elim (h3 hd1) (fun z => absurd h1 (Nat.not_lt.mpr z))))) (Or.inl ⟨hd1, rfl⟩) rfl) hG.2.2) hS1
    · rw [ent_10, lclr_I, lclr_N]
      exact hB 0 _ rfl
    · rw [ent_l, lclr_C, lclr_refs]
      exact hB 1 _ rfl
end PLA
