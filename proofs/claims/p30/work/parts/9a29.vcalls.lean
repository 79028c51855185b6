/-! calls in the law's world -/
section VCs
variable {D : va_G} {cI cZ cO : ClassId} {t0 mi z0 x9 : Nat} {Lr L : Lay} {κ κ' ρ ρ' : St} {H : Heap} {dom : Nat → Nat → Prop} {im : Nat → Prop}
/-- the class's shop, and rows of a region -/
def VX (D : va_G) (cI cZ cO : ClassId) (t0 z0 x9 : Nat) (κ : St) (dom : Nat → Nat → Prop) (L : Lay) (ρ : St) (im : Nat → Prop) (H : Heap) : Prop := ∃ (Lc : Lay) (ow : Nat → Prop), Lc 899 0 = x9 ∧ CW D cI cZ cO t0 Lc κ ow H ∧ (∀ q, ow q → z0 ≤ q ∧ ¬ im q) ∧ PW D cI cZ cO dom L ρ im H ∧ (∀ q, im q → z0 ≤ q) ∧ z0 ≤ H.size
set_option maxHeartbeats 400000 in
theorem VX.of (h : Vd D cI cZ cO t0 z0 x9 Lr κ ρ H) : VX D cI cZ cO t0 z0 x9 κ vdom Lr ρ (vim Lr) H := by
  obtain ⟨Lc, ow, a1, a2, a3, a4, a5, a6⟩ := h
  exact ⟨Lc, ow, a1, a2, a4, a3, fun q hq => by obtain ⟨F, k, hd, e⟩ := hq; rw [← e]; exact a5 F k hd, a6⟩
set_option maxHeartbeats 400000 in
theorem VX.vd (h : VX D cI cZ cO t0 z0 x9 κ dom L ρ im H) (hd : ∀ F k, vdom F k → dom F k) (hl : ∀ F k, vdom F k → Lr F k = L F k) (h1 : ∀ F k, vdom F k → ρ'.2.2.1 F k = ρ.2.2.1 F k) (h2 : ∀ F k, vdom F k → ρ'.2.2.2 F k = ρ.2.2.2 F k) : Vd D cI cZ cO t0 z0 x9 Lr κ ρ' H := by
  obtain ⟨Lc, ow, a1, a2, a3, a4, a5, a6⟩ := h
  have hv : ∀ q, vim Lr q → im q := fun q hq => by
    obtain ⟨F, k, z, e⟩ := hq
    rw [← e, hl F k z]
    exact a4.2.2 F k (hd F k z)
  exact ⟨Lc, ow, a1, a2, a4.rel vd_LD hd hl h1 h2 (fun F k z => ⟨F, k, z, rfl⟩), fun q hq => ⟨(a3 q hq).1, fun z => (a3 q hq).2 (hv q z)⟩, fun F k z => a5 _ (hv _ ⟨F, k, z, rfl⟩), a6⟩
variable {p : Program} {l : Launch} {e : Env} {R : Room} {s : State} {m : MethodId} {args : Array Value} {below : List Frame} {meth : Method} {c : Code} {locs : List Loc} {cells slots : Nat} {Q : State → Prop}
variable {cc : ByteArray} {pc nL : Nat} {ls : Array Slot} {rest st0 : List Value} {own : String}
set_option maxHeartbeats 400000 in
theorem r_topR {a b : Nat} (h : a = b) (k : W p l e R s m args below meth c H locs cells slots Q (F0 m pc ls (.ref b :: rest))) : W p l e R s m args below meth c H locs cells slots Q (F0 m pc ls (.ref a :: rest)) := by rw [h]; exact k
section
variable {y : MethodName} {RC : String} {b : ByteArray} {n : Nat} {ret : Option FieldType} {na idx fr lo mc ms : Nat} {r : Int32} {PJ : St → Prop}
set_option maxHeartbeats 400000 in
theorem v_oq (X : CallFix p m c cc nL s args TB own) (hK : KK D cI cZ cO s) (hE : EE t0 mi (vA z0) s s.heap) (hX : EX (vA z0) s s.heap) (hW : Vd D cI cZ cO t0 z0 x9 Lr κ ρ H) (hS : va_S (vA z0) s.heap H locs) (hY : YV y RX8 b n ret na) (hl : Cond.methodLink own idx y ∈ TB) (As : List Value) (rest : List Value)
    (hO : ∃ κ' τ', (∀ (L : Lay) (ow : Nat → Prop), YI D cI cZ cO t0 mi l y b n ret fr lo mc ms (.ref (L 899 0) :: As) L κ ow 0 r κ') ∧ Rl wr0 κ' τ' ∧ PJ τ') (hst : st0 = As.reverse ++ .ref x9 :: rest) (hls : ls.size = nL) (hn : As.length = na) (hrm : (rest.map fun v => v.category).sum ≤ 8) (hR : fr + 1 ≤ R.frames ∧ 8 + (n + 11) + lo ≤ R.locals) (hc : cells + mc ≤ R.cells ∧ slots + ms ≤ R.slots) (d : decode cc pc = .ok (.invokevirtual idx, 3))
    (kk : ∀ (κ' τ' : St) (H1 : Heap) (locs1 : List Loc), Vd D cI cZ cO t0 z0 x9 Lr κ' ρ H1 → Rl wr0 κ' τ' → PJ τ' → va_S (vA z0) s.heap H1 locs1 → W p l e R s m args below meth c H1 locs1 (cells + mc) (slots + ms) Q (F0 m (pc + 3) ls (.int r :: rest))) : W p l e R s m args below meth c H locs cells slots Q (F0 m pc ls st0) := by
  obtain ⟨κ', τ', hM, hR', hJ'⟩ := hO
  exact v_cls X hK hE hX hW hS hY hl As rest hM hst hls hn hrm hR hc d (fun H1 locs1 a b => kk κ' τ' H1 locs1 a hR' hJ' b)
set_option maxHeartbeats 400000 in
theorem v_oqX (X : CallFix p m c cc nL s args TB own) (hK : KK D cI cZ cO s) (hE : EE t0 mi (vA z0) s s.heap) (hW : Vd D cI cZ cO t0 z0 x9 Lr κ ρ H) (hS : va_S (vA z0) s.heap H locs) (hY : YV y RX8 b n ret na) (hl : Cond.methodLink own idx y ∈ TB) (As : List Value) (rest : List Value)
    (hO : ∃ κ' τ', (∀ (L : Lay) (ow : Nat → Prop), XI D cI cZ cO t0 mi l y b n ret fr lo mc ms (.ref (L 899 0) :: As) L κ ow r κ') ∧ Rl wr0 κ' τ' ∧ PJ τ') (hst : st0 = As.reverse ++ .ref x9 :: rest) (hls : ls.size = nL) (hn : As.length = na) (hrm : (rest.map fun v => v.category).sum ≤ 8) (hR : fr + 1 ≤ R.frames ∧ 8 + (n + 11) + lo ≤ R.locals) (hc : cells + mc ≤ R.cells ∧ slots + ms ≤ R.slots) (d : decode cc pc = .ok (.invokevirtual idx, 3))
    (kk : ∀ (κ' τ' : St) (H1 : Heap) (locs1 : List Loc), Vd D cI cZ cO t0 z0 x9 Lr κ' ρ H1 → Rl wr0 κ' τ' → PJ τ' → va_S (vA z0) s.heap H1 locs1 → W p l e R s m args below meth c H1 locs1 (cells + mc) (slots + ms) Q (F0 m (pc + 3) ls (.int r :: rest))) : W p l e R s m args below meth c H locs cells slots Q (F0 m pc ls st0) := by
  obtain ⟨κ', τ', hM, hR', hJ'⟩ := hO
  exact v_clsX X hK hE hW hS hY hl As rest hM hst hls hn hrm hR hc d (fun H1 locs1 a b => kk κ' τ' H1 locs1 a hR' hJ' b)
set_option maxHeartbeats 400000 in
/-- a call of the law's own over a region -/
theorem x_call (X : CallFix p m c cc nL s args TB own) (hK : KK D cI cZ cO s) (hV : VX D cI cZ cO t0 z0 x9 κ dom L ρ im H) (hS : va_S (vA z0) s.heap H locs) (hY : YS y b n ret na) (hl : Cond.methodLink own idx y ∈ TB) (As : List Value) (rest : List Value) (hM : RM D cI cZ cO dom l y b n ret fr lo As L ρ im r ρ')
    (hst : st0 = As.reverse ++ rest) (hls : ls.size = nL) (hn : As.length = na) (hrm : (rest.map fun v => v.category).sum ≤ 8) (hR : fr + 1 ≤ R.frames ∧ 8 + (n + 11) + lo ≤ R.locals) (hc : cells ≤ R.cells ∧ slots ≤ R.slots) (d : decode cc pc = .ok (.invokestatic idx, 3))
    (kk : ∀ (H1 : Heap) (locs1 : List Loc), VX D cI cZ cO t0 z0 x9 κ dom L ρ' im H1 → va_S (vA z0) s.heap H1 locs1 → W p l e R s m args below meth c H1 locs1 cells slots Q (F0 m (pc + 3) ls (.int r :: rest))) : W p l e R s m args below meth c H locs cells slots Q (F0 m pc ls st0) := by
  subst hst
  obtain ⟨Lc, ow, a1, a2, a3, a4, a5, a6⟩ := hV
  have hAA : ∀ q, AA im H.size q → vA z0 q := fun q h => h.elim (fun z => a5 q z) (fun z => Nat.le_trans a6 z)
  refine va_calli (va_runS (As := As) (rest := rest) X (hM H.size) (ys_cw X.2.2.2.2 hY hl rfl rfl hR) ⟨rp_blind, rp_pre hK a4 rfl⟩ rfl hn hls rfl (lv_room hrm) d hc) hS (fun q _ h => hAA q h) (fun q h => hAA q h) ?_
  intro r1 u t H1 locs1 ht _ hw hB hz hk hS1
  subst hw
  rw [ht] at hB
  exact kk H1 locs1 ⟨Lc, ow, a1, ⟨a2.1.kept (fun q hq hw => hk q hq (fun z => z.elim (fun y => (a3 q hw).2 y) (fun y => by omega))), a2.2⟩, a3, hB, a5, Nat.le_trans a6 hz⟩ hS1
end
set_option maxHeartbeats 400000 in
/-- a row that did not lie there before -/
theorem VX.new {H1 : Heap} {F kn : Nat} {ρ' : St} (h : VX D cI cZ cO t0 z0 x9 κ dom L ρ im H) (hG : PW D cI cZ cO (dA dom F kn) (up2 L F kn H.size) ρ' (fun q => im q ∨ q = H.size) H1) (hz : H.size ≤ H1.size) (hk : ∀ q, q < H.size → ¬ AA im H.size q → H1[q]? = H[q]?) : VX D cI cZ cO t0 z0 x9 κ (dA dom F kn) (up2 L F kn H.size) ρ' (fun q => im q ∨ q = H.size) H1 := by
  obtain ⟨Lc, ow, a1, a2, a3, a4, a5, a6⟩ := h
  have hlt : ∀ F k, cdom κ F k → Lc F k < H.size := fun F k z => (a2.1.1 F k z).lt
  refine ⟨Lc, fun q => ow q ∧ q < H.size, a1, ⟨?_, a2.2⟩, fun q hq => ⟨(a3 q hq.1).1, fun z => ?_⟩, hG, fun q hq => ?_, Nat.le_trans a6 hz⟩
  · have g := a2.1.kept2 (H1 := H1) (fun F k z => hk _ (hlt F k z) (fun y => y.elim (fun w => (a3 _ (a2.1.2.2 F k z)).2 w) (fun w => by have := hlt F k z; omega)))
    exact ⟨g.1, g.2.1, fun F k z => ⟨g.2.2 F k z, hlt F k z⟩⟩
  · rcases z with z | z
    · exact (a3 q hq.1).2 z
    · have := hq.2; omega
  · rcases hq with z | z
    · exact a5 q z
    · rw [z]; exact a6
set_option maxHeartbeats 400000 in
theorem x_cp (X : CallFix p m c cc nL s args TB RL) (hK : KK D cI cZ cO s) (hV : VX D cI cZ cO t0 z0 x9 κ dom L ρ im H) (hS : va_S (vA z0) s.heap H locs) {kr a0 : Nat} (kn : Nat) (hLD : LD dom) (hr : dom 900 kr) (hn : ¬ dom 900 kn) (ha : a0 = L 900 kr) (hls : ls.size = nL) (hrm : (rest.map fun v => v.category).sum ≤ 8) (hR : 1 ≤ R.frames ∧ 22 ≤ R.locals) (hc : cells + 1 ≤ R.cells ∧ slots + 48 ≤ R.slots) (d : decode cc pc = .ok (.invokestatic 37, 3))
    (kk : ∀ (a : Nat) (H1 : Heap) (locs1 : List Loc), VX D cI cZ cO t0 z0 x9 κ (dA dom 900 kn) (up2 L 900 kn a) (cpj kr kn 48 ρ) (fun q => im q ∨ q = a) H1 → va_S (vA z0) s.heap H1 locs1 → W p l e R s m args below meth c H1 locs1 (cells + 1) (slots + 48) Q (F0 m (pc + 3) ls (.ref a :: rest))) : W p l e R s m args below meth c H locs cells slots Q (F0 m pc ls (.ref a0 :: rest)) := by
  subst ha
  have hAA : ∀ q, AA im H.size q → vA z0 q := fun q h => h.elim (fun z => hV.choose_spec.choose_spec.2.2.2.2.1 q z) (fun z => Nat.le_trans hV.choose_spec.choose_spec.2.2.2.2.2 z)
  have hG : PW D cI cZ cO dom L ρ im H := hV.choose_spec.choose_spec.2.2.2.1
  refine va_callr (va_runS (As := [.ref (L 900 kr)]) (rest := rest) X (c_L_copied (D := D) (cI := cI) (cZ := cZ) (cO := cO) (dom := dom) (L := L) (σ := ρ) (ow := im) l kr kn hLD hr hn H.size) (ys_cw X.2.2.2.2 ysL_copied ml_L_37 rfl rfl ⟨by show 0 + 1 ≤ _; omega, by show 8 + (3 + 11) + 0 ≤ _; omega⟩) ⟨rp_blind, rp_pre hK hG rfl⟩ rfl rfl hls rfl (lv_room hrm) d hc) hS (fun q _ h => hAA q h) (fun q h => hAA q h) ?_
  intro u ra t H1 locs1 ht _ _ hB hz hk hS1
  obtain ⟨rfl, hB⟩ := hB
  rw [ht] at hB
  exact kk H.size H1 locs1 (hV.new hB hz hk) hS1
set_option maxHeartbeats 400000 in
theorem x_kp (X : CallFix p m c cc nL s args TB RL) (hK : KK D cI cZ cO s) (hV : VX D cI cZ cO t0 z0 x9 κ dom L ρ im H) (hS : va_S (vA z0) s.heap H locs) {a0 : Nat} (F kr kn N : Nat) (hF : FA F 8) (hF9 : 900 ≤ F ∧ F < 906) (hN : ρ.2.2.1 F kr 0 = N) (hN4 : N ≤ 40) (hLD : LD dom) (hr : dom F kr) (hn : ¬ dom F kn) (ha : a0 = L F kr) (hls : ls.size = nL) (hrm : (rest.map fun v => v.category).sum ≤ 8) (hR : 1 ≤ R.frames ∧ 22 ≤ R.locals) (hc : cells + 1 ≤ R.cells ∧ slots + 40 ≤ R.slots) (d : decode cc pc = .ok (.invokestatic 41, 3))
    (kk : ∀ (a : Nat) (H1 : Heap) (locs1 : List Loc), VX D cI cZ cO t0 z0 x9 κ (dA dom F kn) (up2 L F kn a) (kpi F kr kn N ρ) (fun q => im q ∨ q = a) H1 → va_S (vA z0) s.heap H1 locs1 → W p l e R s m args below meth c H1 locs1 (cells + 1) (slots + 40) Q (F0 m (pc + 3) ls (.ref a :: rest))) : W p l e R s m args below meth c H locs cells slots Q (F0 m pc ls (.ref a0 :: rest)) := by
  subst ha
  have hAA : ∀ q, AA im H.size q → vA z0 q := fun q h => h.elim (fun z => hV.choose_spec.choose_spec.2.2.2.2.1 q z) (fun z => Nat.le_trans hV.choose_spec.choose_spec.2.2.2.2.2 z)
  have hG : PW D cI cZ cO dom L ρ im H := hV.choose_spec.choose_spec.2.2.2.1
  refine va_callr (va_runS (As := [.ref (L F kr)]) (rest := rest) X (c_L_kept (D := D) (cI := cI) (cZ := cZ) (cO := cO) (dom := dom) (L := L) (σ := ρ) (ow := im) l F kr kn N hF hF9 hN hN4 hLD hr hn H.size) (ys_cw X.2.2.2.2 ysL_kept ml_L_41 rfl rfl ⟨by show 0 + 1 ≤ _; omega, by show 8 + (3 + 11) + 0 ≤ _; omega⟩) ⟨rp_blind, rp_pre hK hG rfl⟩ rfl rfl hls rfl (lv_room hrm) d hc) hS (fun q _ h => hAA q h) (fun q h => hAA q h) ?_
  intro u ra t H1 locs1 ht _ _ hB hz hk hS1
  obtain ⟨rfl, hB⟩ := hB
  rw [ht] at hB
  exact kk H.size H1 locs1 (hV.new hB hz hk) hS1
end VCs
/-- all that holds while the law goes on -/
def VQ (D : va_G) (cI cZ cO : ClassId) (t0 z0 x9 : Nat) (L : Lay) (K : Nat) (H : Heap) : Prop := ∃ κ σ τ, Vd D cI cZ cO t0 z0 x9 L κ σ H ∧ Rl wr0 κ τ ∧ JJ K σ τ
/-- .. with the law's rows known -/
def VR (D : va_G) (cI cZ cO : ClassId) (t0 z0 x9 : Nat) (L : Lay) (K : Nat) (σ : St) (H : Heap) : Prop := ∃ κ τ, Vd D cI cZ cO t0 z0 x9 L κ σ H ∧ Rl wr0 κ τ ∧ JJ K σ τ
set_option maxHeartbeats 400000 in
theorem nd_9 {k : Nat} (h : 2 ≤ k) : ¬ vdom 900 k := fun z => by rcases z with ⟨-, z⟩ | ⟨z, -⟩ <;> omega
