/-! THE LAW'S WORLD: the class's shop, the reference, the row of one long -/
def Wd (D : va_G) (cI cZ cO cJ : ClassId) (t0 : Nat) (A : Nat → Prop) (x9 m9 o : Nat) (f : Nat → Int64) (σ τ : St) (H : Heap) : Prop := ∃ (L : Lay) (ow : Nat → Prop) (Lr : Lay), L 899 0 = x9 ∧ Lr 999 0 = m9 ∧ CW D cI cZ cO t0 L σ ow H ∧ PW D cI cZ cO rdom Lr τ (fun q => ∃ F k, rdom F k ∧ Lr F k = q) H ∧ va_at D vwCl (o, eLng cJ f) H ∧ (∀ q, ow q → A q ∧ q ≠ o ∧ ∀ F k, rdom F k → Lr F k ≠ q) ∧ (∀ F k, rdom F k → A (Lr F k) ∧ Lr F k ≠ o) ∧ A o
theorem xi_of_rm {D : va_G} {cI cZ cO : ClassId} {t0 mi : Nat} {l : Launch} {y : MethodName} {b : ByteArray} {n : Nat} {ret : Option FieldType} {fr lo : Nat} {av : List Value} {L : Lay} {σ : St} {ow : Nat → Prop} {r : Int32} (hM : RM D cI cZ cO (cdom σ) l y b n ret fr lo av L σ ow r σ) : XI D cI cZ cO t0 mi l y b n ret fr lo 0 0 av L σ ow r σ := fun sz => by
  intro p e a1 a2 a3 s m args below hf happ hP hq
  obtain ⟨hav, hsz, hK, hC, hE⟩ := hP
  obtain ⟨k, o, h1, h2, h3, hQ⟩ := hM sz p e a1 a2 a3 s m args below hf happ ⟨hav, hsz, hK, hC.1⟩ hq
  refine ⟨k, o, h1, h2, h3, ?_⟩
  obtain ⟨⟨⟨x, u, ho, hp, hb⟩, hF⟩, hL⟩ := hQ
  exact ⟨⟨⟨x, u, ho, hp, xb_rf hC hb ⟨rfl, rfl⟩⟩, hF⟩, hL⟩
/-- the words of a wrapper's call -/
def YL (y : MethodName) (b : ByteArray) (n : Nat) (hh : List (Nat × Nat × Nat × Nat)) (na : Nat) : Prop := (Cond.static y ∈ TB ∧ Cond.initialized y.cls ∈ TB ∧ Cond.codeWith y b n (some .int) hh ∈ TB) ∧ y.cls ≠ "java/lang/invoke/MethodHandle" ∧ y.cls ≠ "java/lang/invoke/VarHandle" ∧ (parseMethodDescriptor y.desc).map (fun d => d.parameters.length) = some na
section LAWs
variable {D : va_G} {cI cZ cO cJ : ClassId} {σ σ' τ τ' : St} {t0 mi o x9 m9 : Nat} {A : Nat → Prop} {f : Nat → Int64}
variable {p : Program} {l : Launch} {e : Env} {R : Room} {s : State} {m : MethodId} {args : Array Value} {below : List Frame} {meth : Method} {c : Code} {H : Heap} {locs : List Loc} {cells slots : Nat} {Q : State → Prop}
variable {cc : ByteArray} {pc nL : Nat} {ls : Array Slot} {rest st0 : List Value} {own : String}
variable {y : MethodName} {b : ByteArray} {n : Nat} {ret : Option FieldType} {na idx fr lo mc ms e9 k9 : Nat} {r : Int32} {hh : List (Nat × Nat × Nat × Nat)}
theorem yl_cw (hts : ∀ w ∈ TB, w.before args s = true) (hY : YL y b n hh na) (hl : Cond.methodLink own idx y ∈ TB) {rm : Room} (hrc : rm.cells = mc) (hrs : rm.slots = ms) (hR : rm.frames + 1 ≤ R.frames ∧ 8 + (n + 11) + rm.locals ≤ R.locals) : vx_CSW R s args own idx y b n (some .int) hh (wH y b n hh) rm mc ms na := by
  have hG : GoodIn TB (wH y b n hh) := fun w hw => (List.mem_cons.mp hw).elim (fun e => by rw [e]; exact g_in hY.1.2.2) (fun h => g_in h)
  refine ⟨⟨hrc, hrs, hR.1, hR.2, pay_in hts hG, List.mem_cons_self⟩, hts _ hY.1.2.2, hts _ hY.1.2.1, ⟨hY.2.1, hY.2.2.1⟩, fun sig h => ?_, hts _ hl, hts _ hY.1.1⟩
  have h2 := hY.2.2.2
  rw [h] at h2
  exact (Option.some.inj h2).symm
theorem l_wrap (X : CallFix p m c cc nL s args TB own) (hK : KJ D cI cZ cO cJ s) (hE : EE t0 mi A s s.heap) (hX : EX A s s.heap) (hN : NC s) (hAn : ∀ q, s.heap.size ≤ q → A q) (hW : Wd D cI cZ cO cJ t0 A x9 m9 o f σ τ H) (hS : va_S A s.heap H locs) (hY : YL y b n hh na) (hl : Cond.methodLink own idx y ∈ TB) (As : List Value) (rest : List Value)
    (hM : ∀ (L : Lay) (ow : Nat → Prop), L 899 0 = x9 → LI D cI cZ cO cJ t0 mi l y b n hh fr lo mc ms As L σ ow o e9 k9 r σ') (hst : st0 = As.reverse ++ rest) (hls : ls.size = nL) (hn : As.length = na) (hrm : (rest.map fun v => v.category).sum ≤ 8) (hR : fr + 1 ≤ R.frames ∧ 8 + (n + 11) + lo ≤ R.locals) (hc : cells + mc ≤ R.cells ∧ slots + ms ≤ R.slots) (d : decode cc pc = .ok (.invokestatic idx, 3))
    (kk : ∀ (f' : Nat → Int64) (H1 : Heap) (locs1 : List Loc), Wd D cI cZ cO cJ t0 A x9 m9 o f' σ' τ H1 → (e9 = 0 → f' 0 = r.toInt64) → va_S A s.heap H1 locs1 → W p l e R s m args below meth c H1 locs1 (cells + mc) (slots + ms) Q (F0 m (pc + 3) ls (.int (nI k9) :: rest))) : W p l e R s m args below meth c H locs cells slots Q (F0 m pc ls st0) := by
  subst hst
  obtain ⟨L, ow, Lr, h1, h2, hC, hG, hat, hO, hr, ho⟩ := hW
  have hos : o < H.size := hat.lt
  have hoo : ¬ ow o := fun z => (hO o z).2.1 rfl
  have hAA : ∀ q, (AA ow H.size q ∨ q = o) → A q := fun q h => h.elim (fun h => h.elim (fun z => (hO q z).1) (fun z => hAn q (Nat.le_trans hS.1 z))) (fun z => by rw [z]; exact ho)
  refine va_calli (vx_runSW (As := As) (rest := rest) X (hM L ow h1 H.size hos) (yl_cw X.2.2.2.2 hY hl rfl rfl hR) ⟨lp_blind, lp_pre hK hC ((hE.at hS).narrow hAA) ((hX.at hS).narrow hAA) hoo hat hN rfl⟩ rfl hn hls rfl (lv_room hrm) d hc) hS (fun q _ h => hAA q h) (fun q h => hAA q h) ?_
  intro r1 u t H1 locs1 ht _ hw hB hz hk hS1
  subst hw
  rw [ht] at hB
  obtain ⟨⟨L', ow', g1, g2, g3⟩, f', g4, g5⟩ := hB
  have hrl : ∀ F k, rdom F k → Lr F k < H.size := fun F k hd => (hG.1 F k hd).lt
  refine kk f' H1 locs1 ⟨L', ow', Lr, by rw [g1 899 0 (cd_fix (by decide)) (by decide)]; exact h1, h2, g3, hG.kept (fun q hq hw => hk q hq (fun z => ?_)), g4, fun q hq => ?_, hr, ho⟩ g5 hS1
  · obtain ⟨F, k, hd, he⟩ := hw
    rcases z with z | z
    · rcases z with z | z
      · exact (hO q z).2.2 F k hd he
      · omega
    · exact (hr F k hd).2 (he.trans z)
  · rcases g2 q hq with z | z
    · exact hO q z
    · exact ⟨hAn q (Nat.le_trans hS.1 z), fun e => by omega, fun F k hd e => by have := hrl F k hd; omega⟩
theorem l_ref (X : CallFix p m c cc nL s args TB own) (hK : KJ D cI cZ cO cJ s) (hAn : ∀ q, s.heap.size ≤ q → A q) (hW : Wd D cI cZ cO cJ t0 A x9 m9 o f σ τ H) (hS : va_S A s.heap H locs) (hY : YV y RX9 b n ret na) (hl : Cond.methodLink own idx y ∈ TB) (As : List Value) (rest : List Value)
    (hM : ∀ (L : Lay) (ow : Nat → Prop), RM D cI cZ cO rdom l y b n ret fr lo (.ref (L 999 0) :: As) L τ ow r τ') (hst : st0 = As.reverse ++ .ref m9 :: rest) (hls : ls.size = nL) (hn : As.length = na) (hrm : (rest.map fun v => v.category).sum ≤ 8) (hR : fr + 1 ≤ R.frames ∧ 8 + (n + 11) + lo ≤ R.locals) (hc : cells ≤ R.cells ∧ slots ≤ R.slots) (d : decode cc pc = .ok (.invokevirtual idx, 3))
    (kk : ∀ (H1 : Heap) (locs1 : List Loc), Wd D cI cZ cO cJ t0 A x9 m9 o f σ τ' H1 → va_S A s.heap H1 locs1 → W p l e R s m args below meth c H1 locs1 cells slots Q (F0 m (pc + 3) ls (.int r :: rest))) : W p l e R s m args below meth c H locs cells slots Q (F0 m pc ls st0) := by
  subst hst
  obtain ⟨L, ow, Lr, h1, h2, hC, hG, hat, hO, hr, ho⟩ := hW
  have hos : o < H.size := hat.lt
  have hAA : ∀ q, AA (fun q => ∃ F k, rdom F k ∧ Lr F k = q) H.size q → A q := fun q h => h.elim (fun ⟨F, k, hd, e⟩ => by rw [← e]; exact (hr F k hd).1) (fun z => hAn q (Nat.le_trans hS.1 z))
  rw [← h2]
  refine va_calli (va_runV (As := As) (rest := rest) X (hM Lr _ H.size) (yv_cw X.2.2.2.2 hY hl rfl rfl hR) ⟨rp_blind, pw_recv (kk_kj hK) hG kX9 rfl rd_999, rp_pre (kk_kj hK) hG rfl⟩ rfl hn hls rfl (lv_room hrm) d hc) hS (fun q _ h => hAA q h) (fun q h => hAA q h) ?_
  intro r1 u t H1 locs1 ht _ hw hB hz hk hS1
  subst hw
  rw [ht] at hB
  exact kk H1 locs1 ⟨L, ow, Lr, h1, h2, ⟨hC.1.kept (fun q hq hw => hk q hq (fun z => z.elim (fun ⟨F, k, hd, he⟩ => (hO q hw).2.2 F k hd he) (fun y => by omega))), hC.2⟩, hB, hat.kept (hk o hos (fun z => z.elim (fun ⟨F, k, hd, he⟩ => (hr F k hd).2 he) (fun y => by omega))), hO, hr, ho⟩ hS1
theorem l_cls (X : CallFix p m c cc nL s args TB own) (hK : KJ D cI cZ cO cJ s) (hE : EE t0 mi A s s.heap) (hAn : ∀ q, s.heap.size ≤ q → A q) (hW : Wd D cI cZ cO cJ t0 A x9 m9 o f σ τ H) (hS : va_S A s.heap H locs) (hY : YV y RX8 b n ret na) (hl : Cond.methodLink own idx y ∈ TB) (As : List Value) (rest : List Value)
    (hM : ∀ (L : Lay) (ow : Nat → Prop), XI D cI cZ cO t0 mi l y b n ret fr lo mc ms (.ref (L 899 0) :: As) L σ ow r σ') (hst : st0 = As.reverse ++ .ref x9 :: rest) (hls : ls.size = nL) (hn : As.length = na) (hrm : (rest.map fun v => v.category).sum ≤ 8) (hR : fr + 1 ≤ R.frames ∧ 8 + (n + 11) + lo ≤ R.locals) (hc : cells + mc ≤ R.cells ∧ slots + ms ≤ R.slots) (d : decode cc pc = .ok (.invokevirtual idx, 3))
    (kk : ∀ (H1 : Heap) (locs1 : List Loc), Wd D cI cZ cO cJ t0 A x9 m9 o f σ' τ H1 → va_S A s.heap H1 locs1 → W p l e R s m args below meth c H1 locs1 (cells + mc) (slots + ms) Q (F0 m (pc + 3) ls (.int r :: rest))) : W p l e R s m args below meth c H locs cells slots Q (F0 m pc ls st0) := by
  subst hst
  obtain ⟨L, ow, Lr, h1, h2, hC, hG, hat, hO, hr, ho⟩ := hW
  have hos : o < H.size := hat.lt
  have hAA : ∀ q, AA ow H.size q → A q := fun q h => h.elim (fun z => (hO q z).1) (fun z => hAn q (Nat.le_trans hS.1 z))
  rw [← h1]
  refine va_calli (va_runV (As := As) (rest := rest) X (hM L ow H.size) (yv_cw X.2.2.2.2 hY hl rfl rfl hR) ⟨xpc_blind, pw_recv (kk_kj hK) hC.1 kX8 rfl (cd_fix (by decide)), xpc_pre (kk_kj hK) hC ((hE.at hS).narrow hAA) rfl⟩ rfl hn hls rfl (lv_room hrm) d hc) hS (fun q _ h => hAA q h) (fun q h => hAA q h) ?_
  intro r1 u t H1 locs1 ht _ hw hB hz hk hS1
  subst hw
  rw [ht] at hB
  obtain ⟨L', ow', g1, g2, g3⟩ := hB
  have hrl : ∀ F k, rdom F k → Lr F k < H.size := fun F k hd => (hG.1 F k hd).lt
  refine kk H1 locs1 ⟨L', ow', Lr, by rw [g1 899 0 (cd_fix (by decide)) (by decide)]; exact h1, h2, g3, hG.kept (fun q hq hw => hk q hq (fun z => ?_)), hat.kept (hk o hos (fun z => z.elim (fun y => (hO o y).2.1 rfl) (fun y => by omega))), fun q hq => ?_, hr, ho⟩ hS1
  · obtain ⟨F, k, hd, he⟩ := hw
    rcases z with z | z
    · exact (hO q z).2.2 F k hd he
    · omega
  · rcases g2 q hq with z | z
    · exact hO q z
    · exact ⟨hAn q (Nat.le_trans hS.1 z), fun e => by omega, fun F k hd e => by have := hrl F k hd; omega⟩
end LAWs
