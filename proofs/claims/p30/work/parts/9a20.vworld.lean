/-! THE LAW'S WORLD: the class's shop, and the law's own rows -/
def vdom (F k : Nat) : Prop := (F = 900 ∧ k < 2) ∨ (901 ≤ F ∧ F < 906 ∧ k = 0)
theorem vd_LD : LD vdom := fun F k h => by rcases h with ⟨rfl, -⟩ | ⟨h1, h2, -⟩ <;> omega
theorem vd_0 {k : Nat} (h : k < 2) : vdom 900 k := Or.inl ⟨rfl, h⟩
theorem vd_1 {F : Nat} (h : 901 ≤ F ∧ F < 906) : vdom F 0 := Or.inr ⟨h.1, h.2, rfl⟩
def vim (Lr : Lay) : Nat → Prop := fun q => ∃ F k, vdom F k ∧ Lr F k = q
def vA (z0 : Nat) : Nat → Prop := fun q => z0 ≤ q
def Vd (D : va_G) (cI cZ cO : ClassId) (t0 z0 x9 : Nat) (Lr : Lay) (σ ρ : St) (H : Heap) : Prop := ∃ (L : Lay) (ow : Nat → Prop), L 899 0 = x9 ∧ CW D cI cZ cO t0 L σ ow H ∧ PW D cI cZ cO vdom Lr ρ (vim Lr) H ∧ (∀ q, ow q → z0 ≤ q ∧ ¬ vim Lr q) ∧ (∀ F k, vdom F k → z0 ≤ Lr F k) ∧ z0 ≤ H.size
section VDs
variable {D : va_G} {cI cZ cO : ClassId} {t0 mi z0 x9 : Nat} {Lr : Lay} {σ σ' ρ ρ' : St} {H H1 : Heap}
theorem Vd.g (h : Vd D cI cZ cO t0 z0 x9 Lr σ ρ H) : PW D cI cZ cO vdom Lr ρ (vim Lr) H := h.choose_spec.choose_spec.2.2.1
/-- one row of the law's is written -/
theorem Vd.put (h : Vd D cI cZ cO t0 z0 x9 Lr σ ρ H) {F k : Nat} (hd : vdom F k) (he : va_at D vwCl (Lr F k, ent cI cZ cO Lr ρ' F k) H1) (hoq : ∀ q, q ≠ Lr F k → H1[q]? = H[q]?) (hz : H.size ≤ H1.size) (h1 : ∀ F' k', ¬ (F' = F ∧ k' = k) → ρ'.2.2.1 F' k' = ρ.2.2.1 F' k') (h2 : ∀ F' k', ¬ (F' = F ∧ k' = k) → ρ'.2.2.2 F' k' = ρ.2.2.2 F' k') : Vd D cI cZ cO t0 z0 x9 Lr σ ρ' H1 := by
  obtain ⟨L, ow, a1, a2, a3, a4, a5, a6⟩ := h
  refine ⟨L, ow, a1, ⟨a2.1.kept (fun q _ hw => hoq q (fun z => (a4 q hw).2 ⟨F, k, hd, z.symm⟩)), a2.2⟩, ?_, a4, a5, Nat.le_trans a6 hz⟩
  refine ⟨fun F' k' hd' => ?_, a3.2.1, a3.2.2⟩
  by_cases e : F' = F ∧ k' = k
  · obtain ⟨rfl, rfl⟩ := e
    exact he
  · rw [ent_law (L := Lr) (vd_LD F' k' hd') (h1 F' k' e) (h2 F' k' e)]
    exact (a3.1 F' k' hd').kept (hoq _ (fun z => e (a3.2.1 _ _ _ _ hd' hd z)))
variable {p : Program} {l : Launch} {e : Env} {R : Room} {s : State} {m : MethodId} {args : Array Value} {below : List Frame} {meth : Method} {c : Code} {locs : List Loc} {cells slots : Nat} {Q : State → Prop}
variable {cc : ByteArray} {pc nL : Nat} {ls : Array Slot} {rest st0 : List Value} {own : String} {H0 : Heap}
theorem pw_iastZ (X : CallFix p m c cc nL s args TB own) (hK : KK D cI cZ cO s) {A : Nat → Prop} {a n : Nat} {f : Nat → Int32} (hat : va_at D vwCl (a, .inl (cI, n, .inl f)) H) (hS : va_S A H0 H locs) (hA : A a) {i : Int32} {x : Int32} (hin : vp_in i n) (hdg : decode cc pc = .ok (.iastore, 1))
    (kk : ∀ (H1 : Heap) (locs1 : List Loc), va_at D vwCl (a, .inl (cI, n, .inl (up1 f i.toNatClampNeg x))) H1 → H1.size = H.size → (∀ q, q ≠ a → H1[q]? = H[q]?) → va_S A H0 H1 locs1 → W p l e R s m args below meth c H1 locs1 cells slots Q (F0 m (pc + 1) ls rest)) : W p l e R s m args below meth c H locs cells slots Q (F0 m pc ls (.int x :: .int i :: .ref a :: rest)) := by
  refine W.iast X.1 X.2.1 hat ((hK.2 0 _ rfl).1 n (fun j => .int (f j))) (fun q => by cases q) (by show ¬ (i < 0 ∨ (arrV _ _ _).slots.size ≤ _); rw [arrV_size]; exact hin) rfl rfl hdg fun H1 e1 z oq => ?_
  refine kk H1 _ ?_ z oq (hS.put z oq hA)
  show H1[a]? = some (vp_cell _ _)
  rw [e1]
  rw [vp_cell_i, vp_cell_i, arrV_store]
  congr 2
  funext q
  by_cases hq : q = i.toNatClampNeg
  · subst hq
    simp [updV, up1]
  · simp [updV, up1, hq]
theorem vs_I (X : CallFix p m c cc nL s args TB own) (hK : KK D cI cZ cO s) (hW : Vd D cI cZ cO t0 z0 x9 Lr σ ρ H) (hS : va_S (vA z0) H0 H locs) (F : Nat) (hF : FA F 3) {k : Nat} (hd : vdom F k) {i N : Nat} {x : Int32} (hN : flen F = N) (hi : i < N) (hs : N < 2 ^ 31) (hdg : decode cc pc = .ok (.iastore, 1))
    (kk : ∀ (H1 : Heap) (locs1 : List Loc), Vd D cI cZ cO t0 z0 x9 Lr σ (wB ρ F k i x) H1 → va_S (vA z0) H0 H1 locs1 → W p l e R s m args below meth c H1 locs1 cells slots Q (F0 m (pc + 1) ls rest)) : W p l e R s m args below meth c H locs cells slots Q (F0 m pc ls (.int x :: .int (nI i) :: .ref (Lr F k) :: rest)) := by
  have hat := hW.g.1 _ _ hd
  rw [ent_3 hF.1 hF.2.1 hF.2.2, hN] at hat
  refine pw_iastZ X hK hat hS (hW.choose_spec.choose_spec.2.2.2.2.1 F k hd) (vp_in_nI hi hs) hdg fun H1 locs1 e1 e2 e3 e4 => kk H1 locs1 (hW.put hd ?_ e3 (Nat.le_of_eq e2.symm) (fun _ _ _ => rfl) (fun F' k' h => up3_n h)) e4
  rw [ent_3 hF.1 hF.2.1 hF.2.2, hN]
  rw [nI_clamp (by omega)] at e1
  rw [show (wB ρ F k i x).2.2.2 F k = up1 (ρ.2.2.2 F k) i x from up3_s]
  exact e1
theorem vs_8 (X : CallFix p m c cc nL s args TB own) (hK : KK D cI cZ cO s) (hW : Vd D cI cZ cO t0 z0 x9 Lr σ ρ H) (hS : va_S (vA z0) H0 H locs) (F : Nat) (hF : FA F 8) {k : Nat} (hd : vdom F k) {i N : Nat} {x : Int32} (hN : ρ.2.2.1 F k 0 = N) (hi : i < N) (hs : N < 2 ^ 31) (hdg : decode cc pc = .ok (.iastore, 1))
    (kk : ∀ (H1 : Heap) (locs1 : List Loc), Vd D cI cZ cO t0 z0 x9 Lr σ (wB ρ F k i x) H1 → va_S (vA z0) H0 H1 locs1 → W p l e R s m args below meth c H1 locs1 cells slots Q (F0 m (pc + 1) ls rest)) : W p l e R s m args below meth c H locs cells slots Q (F0 m pc ls (.int x :: .int (nI i) :: .ref (Lr F k) :: rest)) := by
  have hat := hW.g.1 _ _ hd
  rw [ent_8 hF.1 hF.2.1 hF.2.2, hN] at hat
  refine pw_iastZ X hK hat hS (hW.choose_spec.choose_spec.2.2.2.2.1 F k hd) (vp_in_nI hi hs) hdg fun H1 locs1 e1 e2 e3 e4 => kk H1 locs1 (hW.put hd ?_ e3 (Nat.le_of_eq e2.symm) (fun _ _ _ => rfl) (fun F' k' h => up3_n h)) e4
  rw [ent_8 hF.1 hF.2.1 hF.2.2]
  rw [nI_clamp (by omega)] at e1
  rw [show (wB ρ F k i x).2.2.2 F k = up1 (ρ.2.2.2 F k) i x from up3_s, show (wB ρ F k i x).2.2.1 F k 0 = N from hN]
  exact e1
theorem pw_jastZ (X : CallFix p m c cc nL s args TB own) (hK : KK D cI cZ cO s) {A : Nat → Prop} {a n : Nat} {f : Nat → Int64} (hat : va_at D vwCl (a, .inl (cZ, n, .inr (.inl f))) H) (hS : va_S A H0 H locs) (hA : A a) {i : Int32} {x : Int64} (hin : vp_in i n) (hdg : decode cc pc = .ok (.lastore, 1))
    (kk : ∀ (H1 : Heap) (locs1 : List Loc), va_at D vwCl (a, .inl (cZ, n, .inr (.inl (up1 f i.toNatClampNeg x)))) H1 → H1.size = H.size → (∀ q, q ≠ a → H1[q]? = H[q]?) → va_S A H0 H1 locs1 → W p l e R s m args below meth c H1 locs1 cells slots Q (F0 m (pc + 1) ls rest)) : W p l e R s m args below meth c H locs cells slots Q (F0 m pc ls (.long x :: .int i :: .ref a :: rest)) := by
  refine W.last X.1 X.2.1 hat ((hK.2 1 _ rfl).1 n (fun j => .long (f j))) (fun q => by cases q) (by show ¬ (i < 0 ∨ (arrV _ _ _).slots.size ≤ _); rw [arrV_size]; exact hin) rfl rfl hdg fun H1 e1 z oq => ?_
  refine kk H1 _ ?_ z oq (hS.put z oq hA)
  show H1[a]? = some (vp_cell _ _)
  rw [e1]
  rw [vp_cell_l, vp_cell_l, arrV_store]
  congr 2
  funext q
  by_cases hq : q = i.toNatClampNeg
  · subst hq
    simp [updV, up1]
  · simp [updV, up1, hq]
theorem vs_J (X : CallFix p m c cc nL s args TB own) (hK : KK D cI cZ cO s) (hW : Vd D cI cZ cO t0 z0 x9 Lr σ ρ H) (hS : va_S (vA z0) H0 H locs) (F : Nat) (hF : FA F 4) {k : Nat} (hd : vdom F k) {i N x : Nat} (hN : flen F = N) (hi : i < N) (hs : N < 2 ^ 31) (hdg : decode cc pc = .ok (.lastore, 1))
    (kk : ∀ (H1 : Heap) (locs1 : List Loc), Vd D cI cZ cO t0 z0 x9 Lr σ (wA ρ F k i x) H1 → va_S (vA z0) H0 H1 locs1 → W p l e R s m args below meth c H1 locs1 cells slots Q (F0 m (pc + 1) ls rest)) : W p l e R s m args below meth c H locs cells slots Q (F0 m pc ls (.long (lJ x) :: .int (nI i) :: .ref (Lr F k) :: rest)) := by
  have hat := hW.g.1 _ _ hd
  rw [ent_4 hF.1 hF.2.1 hF.2.2, hN] at hat
  refine pw_jastZ X hK hat hS (hW.choose_spec.choose_spec.2.2.2.2.1 F k hd) (vp_in_nI hi hs) hdg fun H1 locs1 e1 e2 e3 e4 => kk H1 locs1 (hW.put hd ?_ e3 (Nat.le_of_eq e2.symm) (fun F' k' h => up3_n h) (fun _ _ _ => rfl)) e4
  rw [ent_4 hF.1 hF.2.1 hF.2.2, hN]
  rw [nI_clamp (by omega)] at e1
  have e9 : (fun j => lJ ((wA ρ F k i x).2.2.1 F k j)) = up1 (fun j => lJ (ρ.2.2.1 F k j)) i (lJ x) := by
    funext j
    show lJ (up3 _ _ _ _ _ _ _ _) = _
    rw [up3_s]
    by_cases hj : j = i
    · subst hj; rw [up1_s, up1_s]
    · rw [up1_n hj, up1_n hj]
  rw [e9]
  exact e1
section
variable {y : MethodName} {RC : String} {b : ByteArray} {n : Nat} {ret : Option FieldType} {na idx fr lo mc ms : Nat} {r : Int32}
/-- a call of the law's own, that makes nothing -/
theorem v_callS (X : CallFix p m c cc nL s args TB own) (hK : KK D cI cZ cO s) (hW : Vd D cI cZ cO t0 z0 x9 Lr σ ρ H) (hS : va_S (vA z0) s.heap H locs) (hY : YS y b n ret na) (hl : Cond.methodLink own idx y ∈ TB) (As : List Value) (rest : List Value) (hM : RM D cI cZ cO vdom l y b n ret fr lo As Lr ρ (vim Lr) r ρ')
    (hst : st0 = As.reverse ++ rest) (hls : ls.size = nL) (hn : As.length = na) (hrm : (rest.map fun v => v.category).sum ≤ 8) (hR : fr + 1 ≤ R.frames ∧ 8 + (n + 11) + lo ≤ R.locals) (hc : cells ≤ R.cells ∧ slots ≤ R.slots) (d : decode cc pc = .ok (.invokestatic idx, 3))
    (kk : ∀ (H1 : Heap) (locs1 : List Loc), Vd D cI cZ cO t0 z0 x9 Lr σ ρ' H1 → va_S (vA z0) s.heap H1 locs1 → W p l e R s m args below meth c H1 locs1 cells slots Q (F0 m (pc + 3) ls (.int r :: rest))) : W p l e R s m args below meth c H locs cells slots Q (F0 m pc ls st0) := by
  subst hst
  obtain ⟨L, ow, a1, a2, a3, a4, a5, a6⟩ := hW
  have hAA : ∀ q, AA (vim Lr) H.size q → vA z0 q := fun q h => h.elim (fun ⟨F, k, hd, e⟩ => by rw [← e]; exact a5 F k hd) (fun z => Nat.le_trans a6 z)
  refine va_calli (va_runS (As := As) (rest := rest) X (hM H.size) (ys_cw X.2.2.2.2 hY hl rfl rfl hR) ⟨rp_blind, rp_pre hK a3 rfl⟩ rfl hn hls rfl (lv_room hrm) d hc) hS (fun q _ h => hAA q h) (fun q h => hAA q h) ?_
  intro r1 u t H1 locs1 ht _ hw hB hz hk hS1
  subst hw
  rw [ht] at hB
  exact kk H1 locs1 ⟨L, ow, a1, ⟨a2.1.kept (fun q hq hw => hk q hq (fun z => z.elim (fun y => (a4 q hw).2 y) (fun y => by omega))), a2.2⟩, hB, a4, a5, Nat.le_trans a6 hz⟩ hS1
/-- a call of the class that does not throw -/
theorem v_cls (X : CallFix p m c cc nL s args TB own) (hK : KK D cI cZ cO s) (hE : EE t0 mi (vA z0) s s.heap) (hX : EX (vA z0) s s.heap) (hW : Vd D cI cZ cO t0 z0 x9 Lr σ ρ H) (hS : va_S (vA z0) s.heap H locs) (hY : YV y RX8 b n ret na) (hl : Cond.methodLink own idx y ∈ TB) (As : List Value) (rest : List Value)
    (hM : ∀ (L : Lay) (ow : Nat → Prop), YI D cI cZ cO t0 mi l y b n ret fr lo mc ms (.ref (L 899 0) :: As) L σ ow 0 r σ') (hst : st0 = As.reverse ++ .ref x9 :: rest) (hls : ls.size = nL) (hn : As.length = na) (hrm : (rest.map fun v => v.category).sum ≤ 8) (hR : fr + 1 ≤ R.frames ∧ 8 + (n + 11) + lo ≤ R.locals) (hc : cells + mc ≤ R.cells ∧ slots + ms ≤ R.slots) (d : decode cc pc = .ok (.invokevirtual idx, 3))
    (kk : ∀ (H1 : Heap) (locs1 : List Loc), Vd D cI cZ cO t0 z0 x9 Lr σ' ρ H1 → va_S (vA z0) s.heap H1 locs1 → W p l e R s m args below meth c H1 locs1 (cells + mc) (slots + ms) Q (F0 m (pc + 3) ls (.int r :: rest))) : W p l e R s m args below meth c H locs cells slots Q (F0 m pc ls st0) := by
  subst hst
  obtain ⟨L, ow, a1, a2, a3, a4, a5, a6⟩ := hW
  have hAA : ∀ q, AA ow H.size q → vA z0 q := fun q h => h.elim (fun z => (a4 q z).1) (fun z => Nat.le_trans a6 z)
  rw [← a1]
  have hrl : ∀ F k, vdom F k → Lr F k < H.size := fun F k hd => (a3.1 F k hd).lt
  refine vx_calli (vx_runV (As := As) (rest := rest) X (hM L ow H.size) (yv_cw X.2.2.2.2 hY hl rfl rfl hR) ⟨yp_blind, pw_recv hK a2.1 kX8 rfl (cd_fix (by decide)), yp_pre hK a2 ((hE.at hS).narrow hAA) ((hX.at hS).narrow hAA) rfl⟩ rfl hn hls rfl (lv_room hrm) d hc) hS (fun q _ h => hAA q h) (fun q h => hAA q h) (fun q _ h => hAA q h) ?_ ?_
  · intro E ce q9 u t H1 locs1 ht _ _ hB _ hk hS1 h1 h2 h3
    rw [ht] at hB
    exact absurd rfl hB.1.1
  · intro r1 u t H1 locs1 ht _ hw hB hz hk hS1
    obtain ⟨rfl, he⟩ := hw
    rw [ht] at hB
    obtain ⟨L', ow', g1, g2, g3⟩ := hB
    refine kk H1 locs1 ⟨L', ow', by rw [g1 899 0 (cd_fix (by decide)) (by decide)]; exact a1, g3, a3.kept (fun q hq hw => hk q hq (fun z => ?_)), fun q hq => ?_, a5, Nat.le_trans a6 hz⟩ hS1
    · rcases z with z | z
      · exact (a4 q z).2 hw
      · omega
    · rcases g2 q hq with z | z
      · exact a4 q z
      · exact ⟨Nat.le_trans a6 z, fun ⟨F, k, hd, e⟩ => by have := hrl F k hd; omega⟩
theorem v_clsX (X : CallFix p m c cc nL s args TB own) (hK : KK D cI cZ cO s) (hE : EE t0 mi (vA z0) s s.heap) (hW : Vd D cI cZ cO t0 z0 x9 Lr σ ρ H) (hS : va_S (vA z0) s.heap H locs) (hY : YV y RX8 b n ret na) (hl : Cond.methodLink own idx y ∈ TB) (As : List Value) (rest : List Value)
    (hM : ∀ (L : Lay) (ow : Nat → Prop), XI D cI cZ cO t0 mi l y b n ret fr lo mc ms (.ref (L 899 0) :: As) L σ ow r σ') (hst : st0 = As.reverse ++ .ref x9 :: rest) (hls : ls.size = nL) (hn : As.length = na) (hrm : (rest.map fun v => v.category).sum ≤ 8) (hR : fr + 1 ≤ R.frames ∧ 8 + (n + 11) + lo ≤ R.locals) (hc : cells + mc ≤ R.cells ∧ slots + ms ≤ R.slots) (d : decode cc pc = .ok (.invokevirtual idx, 3))
    (kk : ∀ (H1 : Heap) (locs1 : List Loc), Vd D cI cZ cO t0 z0 x9 Lr σ' ρ H1 → va_S (vA z0) s.heap H1 locs1 → W p l e R s m args below meth c H1 locs1 (cells + mc) (slots + ms) Q (F0 m (pc + 3) ls (.int r :: rest))) : W p l e R s m args below meth c H locs cells slots Q (F0 m pc ls st0) := by
  subst hst
  obtain ⟨L, ow, a1, a2, a3, a4, a5, a6⟩ := hW
  have hAA : ∀ q, AA ow H.size q → vA z0 q := fun q h => h.elim (fun z => (a4 q z).1) (fun z => Nat.le_trans a6 z)
  rw [← a1]
  have hrl : ∀ F k, vdom F k → Lr F k < H.size := fun F k hd => (a3.1 F k hd).lt
  refine va_calli (va_runV (As := As) (rest := rest) X (hM L ow H.size) (yv_cw X.2.2.2.2 hY hl rfl rfl hR) ⟨xpc_blind, pw_recv hK a2.1 kX8 rfl (cd_fix (by decide)), xpc_pre hK a2 ((hE.at hS).narrow hAA) rfl⟩ rfl hn hls rfl (lv_room hrm) d hc) hS (fun q _ h => hAA q h) (fun q h => hAA q h) ?_
  intro r1 u t H1 locs1 ht _ hw hB hz hk hS1
  subst hw
  rw [ht] at hB
  obtain ⟨L', ow', g1, g2, g3⟩ := hB
  refine kk H1 locs1 ⟨L', ow', by rw [g1 899 0 (cd_fix (by decide)) (by decide)]; exact a1, g3, a3.kept (fun q hq hw => hk q hq (fun z => ?_)), fun q hq => ?_, a5, Nat.le_trans a6 hz⟩ hS1
  · rcases z with z | z
    · exact (a4 q z).2 hw
    · omega
  · rcases g2 q hq with z | z
    · exact a4 q z
    · exact ⟨Nat.le_trans a6 z, fun ⟨F, k, hd, e⟩ => by have := hrl F k hd; omega⟩
end
/-- a method of the law's that speaks with the class: it keeps what holds of the heap, and answers -/
def VPc (D : va_G) (cI cZ cO : ClassId) (t0 mi z0 : Nat) (P : Heap → Prop) (sz : Nat) (av : List Value) : Array Value → State → Prop := va_Pc av (fun U => U.heap.size = sz ∧ KK D cI cZ cO U ∧ EE t0 mi (vA z0) U U.heap ∧ EX (vA z0) U U.heap ∧ P U.heap)
theorem vpc_blind {P : Heap → Prop} {sz : Nat} {av : List Value} : FrameBlind (VPc D cI cZ cO t0 mi z0 P sz av) := fun a U g mk q => by
  obtain ⟨q0, q1, q2, q3, q4, q5⟩ := q
  exact ⟨q0, q1, va_K.moved (u := U) (U := U.calling g mk a) (Vm.Alike.refl U.vm) q2, q3.moved (U := U.calling g mk a) (Vm.Alike.refl U.vm), EX.same (u := U) (U := U.calling g mk a) rfl q4, q5⟩
def VI (D : va_G) (cI cZ cO : ClassId) (t0 mi z0 : Nat) (l : Launch) (y : MethodName) (b : ByteArray) (n : Nat) (ret : Option FieldType) (fr lo mc ms : Nat) (av : List Value) (P P' : Heap → Prop) (r : Int32) : Prop :=
  ∀ sz : Nat, z0 ≤ sz → Met l y (wM y b n ret) { frames := fr, cells := mc, slots := ms, locals := lo } (VPc D cI cZ cO t0 mi z0 P sz av) (va_Qi (fun x (_ : Unit) => x = r) (fun _ t => P' t.heap) (vA z0)) mc ms (vA z0)
theorem vi_of {y : MethodName} {b : ByteArray} {n : Nat} {ret : Option FieldType} {fr lo mc ms : Nat} {r : Int32} {av : List Value} {P P' : Heap → Prop} (hy : plainName y.cls = true) (hn : (lg_sl av).length ≤ n)
    (body : ∀ (p : Program) (e : Env) (s : State) (m : MethodId) (args : Array Value) (below : List Frame) (meth : Method) (c : Code) (ls : Array Slot), CallFix p m c b n s args TB y.cls → KK D cI cZ cO s → EE t0 mi (vA z0) s s.heap → EX (vA z0) s s.heap → P s.heap → z0 ≤ s.heap.size → meth.sig.returnType = ret → meth.locks = false → lv_has ls n (lv_args 0 av) →
      W p l e { frames := fr, cells := mc, slots := ms, locals := lo } s m args below meth c s.heap [] 0 0 (MQ below (va_Qi (fun x (_ : Unit) => x = r) (fun _ t => P' t.heap) (vA z0)) args s mc ms (vA z0)) (F0 m 0 ls [])) : VI D cI cZ cO t0 mi z0 l y b n ret fr lo mc ms av P P' r := by
  intro sz hsz0
  refine Met.ofW (cc := b) (maxL := n) (ret := ret) hy rfl ?_
  intro p e s m args below meth c s₁ B hml hv
  obtain ⟨hav, hsz, hK, hE, hX, hP⟩ := hv
  subst hsz
  rw [lg_entry_eq]
  have hl := lv_entry av hn
  have hws := atoms_spec (ws := wM y b n ret) B.pre
  rw [hav]
  rw [hav] at B hws
  exact body p e s m av.toArray below meth c _ ⟨B.exec, B.bytes, hml, findClass_of_methodNamed B.named, wm_hts hws⟩ hK hE hX hP hsz0 B.returns B.notSynchronized hl
theorem vi_ret (X : CallFix p m c cc nL s args TB own) {ty : FieldType} (hr : meth.sig.returnType = some ty) (hlocks : meth.locks = false) {mc ms : Nat} {v r : Int32} {P' : Heap → Prop} (hP : P' H) (hS : va_S (vA z0) s.heap H locs) (hv : v = r) (h1 : cells ≤ mc) (h2 : slots ≤ ms) (hn : narrow ty (.int v) = .int v) (d : decode cc pc = .ok (.ireturn, 1)) :
    W p l e R s m args below meth c H locs cells slots (MQ below (va_Qi (fun x (_ : Unit) => x = r) (fun _ t => P' t.heap) (vA z0)) args s mc ms (vA z0)) (F0 m pc ls [.int v]) :=
  W.widen h1 h2 (W.zret X.1 X.2.1 hr hn (fun t ht hW => ⟨⟨v, (), rfl, hv, by show P' t.heap; rw [ht]; exact hP⟩, hS.F ht⟩) hS.2.2 d hlocks)
theorem vi_call (X : CallFix p m c cc nL s args TB own) (hK : KK D cI cZ cO s) (hE : EE t0 mi (vA z0) s s.heap) (hX : EX (vA z0) s s.heap) {P P' : Heap → Prop} (hP : P H) (hz0 : z0 ≤ H.size) (hS : va_S (vA z0) s.heap H locs) {y : MethodName} {b : ByteArray} {n : Nat} {ret : Option FieldType} {na idx fr lo mc ms : Nat} {r : Int32} (hY : YS y b n ret na) (hl : Cond.methodLink own idx y ∈ TB) (As : List Value) (rest : List Value) (hM : VI D cI cZ cO t0 mi z0 l y b n ret fr lo mc ms As P P' r)
    (hst : st0 = As.reverse ++ rest) (hls : ls.size = nL) (hn : As.length = na) (hrm : (rest.map fun v => v.category).sum ≤ 8) (hR : fr + 1 ≤ R.frames ∧ 8 + (n + 11) + lo ≤ R.locals) (hc : cells + mc ≤ R.cells ∧ slots + ms ≤ R.slots) (d : decode cc pc = .ok (.invokestatic idx, 3))
    (kk : ∀ (H1 : Heap) (locs1 : List Loc), P' H1 → va_S (vA z0) s.heap H1 locs1 → W p l e R s m args below meth c H1 locs1 (cells + mc) (slots + ms) Q (F0 m (pc + 3) ls (.int r :: rest))) : W p l e R s m args below meth c H locs cells slots Q (F0 m pc ls st0) := by
  subst hst
  refine va_calli (va_runS (As := As) (rest := rest) X (hM H.size hz0) (ys_cw X.2.2.2.2 hY hl rfl rfl hR) ⟨vpc_blind, fun U hU hW => ⟨rfl, by rw [hU], va_K.moved hW.alike hK, by rw [hU]; exact (hE.at hS).moved hW.alike, by rw [hU]; exact (hX.at hS).warm hW, by rw [hU]; exact hP⟩⟩ rfl hn hls rfl (lv_room hrm) d hc) hS (fun q _ h => h) (fun q h => h) ?_
  intro r1 u t H1 locs1 ht _ hw hB _ _ hS1
  subst hw
  rw [ht] at hB
  exact kk H1 locs1 hB hS1
/-- a loop, with what holds of the heap -/
theorem r_loopP {ι : Type} {A : Nat → Prop} (lvf : ι → List (Nat × Value)) (P : ι → Heap → Prop) (μ : ι → Nat) (Inv : ι → Prop) (cs ss : ι → Nat) {st : List Value} (i0 : ι) (hI : Inv i0) (hP : P i0 H) (hS : va_S A H0 H locs) (hl : lv_has ls nL (lvf i0)) (hc0 : cs i0 = cells) (hs0 : ss i0 = slots)
    (body : ∀ i : ι, Inv i → (∀ j : ι, μ j < μ i → Inv j → ∀ (H : Heap) (locs : List Loc) (ls : Array Slot), P j H → va_S A H0 H locs → lv_has ls nL (lvf j) → W p l e R s m args below meth c H locs (cs j) (ss j) Q (F0 m pc ls st)) →
      ∀ (H : Heap) (locs : List Loc) (ls : Array Slot), P i H → va_S A H0 H locs → lv_has ls nL (lvf i) → W p l e R s m args below meth c H locs (cs i) (ss i) Q (F0 m pc ls st)) : W p l e R s m args below meth c H locs cells slots Q (F0 m pc ls st) := by
  have key : ∀ (n : Nat) (i : ι), μ i < n → Inv i → ∀ (H : Heap) (locs : List Loc) (ls : Array Slot), P i H → va_S A H0 H locs → lv_has ls nL (lvf i) → W p l e R s m args below meth c H locs (cs i) (ss i) Q (F0 m pc ls st) := by
    intro n
    induction n with
    | zero => intro i h; exact absurd h (Nat.not_lt_zero _)
    | succ n ih => intro i h hi; exact body i hi (fun j hj hij => ih j (by omega) hij)
  subst hc0 hs0
  exact key (μ i0 + 1) i0 (Nat.lt_succ_self _) hI H locs ls hP hS hl
/-- a place where ways meet -/
theorem r_cutV {A : Nat → Prop} {P : Heap → Prop} {st0 : List Value} {pc0 : Nat} (pc2 : Nat) (st2 : List Value) (hP : P H) (hS : va_S A H0 H locs)
    (h1 : ∀ (H : Heap) (locs : List Loc), P H → va_S A H0 H locs → W p l e R s m args below meth c H locs cells slots Q (F0 m pc2 ls st2))
    (h2 : (∀ (H : Heap) (locs : List Loc), P H → va_S A H0 H locs → W p l e R s m args below meth c H locs cells slots Q (F0 m pc2 ls st2)) → W p l e R s m args below meth c H locs cells slots Q (F0 m pc0 ls st0)) : W p l e R s m args below meth c H locs cells slots Q (F0 m pc0 ls st0) := h2 h1
end VDs
