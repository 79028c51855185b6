/-! THE LAW'S WRAPPERS: an answer into the row of one long, or the number of what was thrown -/
abbrev KJ (D : va_G) (cI cZ cO cJ : ClassId) (U : State) : Prop := va_K D vwCl [(cI, .int), (cZ, .boolean), (cO, .object "java/lang/Object"), (cJ, .long)] U
abbrev eLng (cJ : ClassId) (f : Nat → Int64) : va_E := .inl (cJ, 1, .inr (.inl f))
theorem kk_kj {D : va_G} {cI cZ cO cJ : ClassId} {U : State} (h : KJ D cI cZ cO cJ U) : KK D cI cZ cO U := va_K.sub h [0, 1, 2] rfl
def NC (U : State) : Prop := va_Nc (XTc 2) (XTc 1) U ∧ va_Nc (XTc 3) (XTc 1) U ∧ va_Nc (XTc 3) (XTc 2) U
theorem NC.moved {u U : State} (hvm : u.vm.Alike U.vm) (h : NC u) : NC U := ⟨va_Nc.moved hvm h.1, va_Nc.moved hvm h.2.1, va_Nc.moved hvm h.2.2⟩
def wH (y : MethodName) (b : ByteArray) (n : Nat) (hh : List (Nat × Nat × Nat × Nat)) : List Cond := .codeWith y b n (some .int) hh :: TB
theorem m_ofWH {l : Launch} {y : MethodName} {ws ws' : List Cond} {rm : Room} {Pc : Array Value → State → Prop} {Qc : Array Value → State → Outcome → State → Prop} {mc ms : Nat} {free : Addr → Prop} {cc : ByteArray} {maxL : Nat} {ret : Option FieldType} {hh : List (Nat × Nat × Nat × Nat)}
    (hy : plainName y.cls = true) (hw : ws = Cond.codeWith y cc maxL ret hh :: ws')
    (body : ∀ p e s m args below meth c s₁, BodyLoose p l y (headSpec ws rm) cc maxL ret e s m args below meth c s₁ → c.maxLocals = maxL → Pc args s →
      W p l e (headSpec ws rm).room s m args below meth c s.heap [] 0 0 (MQ below Qc args s mc ms free) (entryFrame m args maxL)) : Met l y ws rm Pc Qc mc ms free := by
  refine MetFree.of_bodyS (code := cc) (maxLocals := maxL) (ret := ret) hy ?_ ?_
  · intro args s m h hn
    obtain ⟨m9, meth, c, hn9, h1, h2, h3, h4, -, h5, h6, -⟩ := Cond.codeWith_spec (atoms_spec (ws := ws) h _ (by rw [hw]; exact List.mem_cons_self))
    cases hn.symm.trans hn9
    exact ⟨meth, c, h1, h2, h3, h4, h5, h6⟩
  · intro p e s m args below meth c s₁ B hml hP _
    have hh0 : s₁.heap = s.heap := by rw [B.state]; rfl
    obtain ⟨t, a1, o, b1, b2, b3⟩ := body p e s m args below meth c s₁ B hml hP s₁ hh0 (Stand.of_body B)
    exact ⟨t, o, a1, b1, b2, b3⟩
section LWs
variable {D : va_G} {cI cZ cO cJ : ClassId} {L : Lay} {σ σ' : St} {ow : Nat → Prop} {t0 mi o : Nat}
def LPw (D : va_G) (cI cZ cO cJ : ClassId) (t0 mi : Nat) (L : Lay) (σ : St) (ow : Nat → Prop) (o sz : Nat) (av : List Value) : Array Value → State → Prop := va_Pc av (fun U => U.heap.size = sz ∧ KJ D cI cZ cO cJ U ∧ CW D cI cZ cO t0 L σ ow U.heap ∧ EE t0 mi (fun q => AA ow sz q ∨ q = o) U U.heap ∧ EX (fun q => AA ow sz q ∨ q = o) U U.heap ∧ ¬ ow o ∧ (∃ f, va_at D vwCl (o, eLng cJ f) U.heap) ∧ NC U)
theorem lp_blind {sz : Nat} {av : List Value} : FrameBlind (LPw D cI cZ cO cJ t0 mi L σ ow o sz av) := fun a U g mk q => by
  obtain ⟨q0, q1, q2, q3, q4, q5, q6, q7, q8⟩ := q
  exact ⟨q0, q1, va_K.moved (u := U) (U := U.calling g mk a) (Vm.Alike.refl U.vm) q2, q3, q4.moved (U := U.calling g mk a) (Vm.Alike.refl U.vm), EX.same (u := U) (U := U.calling g mk a) rfl q5, q6, q7, NC.moved (u := U) (U := U.calling g mk a) (Vm.Alike.refl U.vm) q8⟩
theorem lp_pre {s : State} {H : Heap} {sz : Nat} {av : List Value} (hK : KJ D cI cZ cO cJ s) (hC : CW D cI cZ cO t0 L σ ow H) (hE : EE t0 mi (fun q => AA ow sz q ∨ q = o) s H) (hX : EX (fun q => AA ow sz q ∨ q = o) s H) (ho : ¬ ow o) {f : Nat → Int64} (hat : va_at D vwCl (o, eLng cJ f) H) (hN : NC s) (hsz : H.size = sz) : ∀ U : State, U.heap = H → s.WarmedH U.vm → LPw D cI cZ cO cJ t0 mi L σ ow o sz av av.toArray U := fun U hU hW => ⟨rfl, by rw [hU]; exact hsz, va_K.moved hW.alike hK, by rw [hU]; exact hC, by rw [hU]; exact hE.moved hW.alike, by rw [hU]; exact hX.warm hW, ho, ⟨f, by rw [hU]; exact hat⟩, hN.moved hW.alike⟩
/-- what a wrapper leaves -/
def LB (D : va_G) (cI cZ cO cJ : ClassId) (t0 : Nat) (L : Lay) (σ : St) (ow : Nat → Prop) (o sz e9 : Nat) (r : Int32) (σ' : St) (H : Heap) : Prop := XB D cI cZ cO t0 L σ ow sz σ' H ∧ ∃ f, va_at D vwCl (o, eLng cJ f) H ∧ (e9 = 0 → f 0 = r.toInt64)
def LI (D : va_G) (cI cZ cO cJ : ClassId) (t0 mi : Nat) (l : Launch) (y : MethodName) (b : ByteArray) (n : Nat) (hh : List (Nat × Nat × Nat × Nat)) (fr lo mc ms : Nat) (av : List Value) (L : Lay) (σ : St) (ow : Nat → Prop) (o e9 k9 : Nat) (r : Int32) (σ' : St) : Prop :=
  ∀ sz : Nat, o < sz → Met l y (wH y b n hh) { frames := fr, cells := mc, slots := ms, locals := lo } (LPw D cI cZ cO cJ t0 mi L σ ow o sz av) (va_Qi (fun x (_ : Unit) => x = nI k9) (fun _ t => LB D cI cZ cO cJ t0 L σ ow o sz e9 r σ' t.heap) (fun q => AA ow sz q ∨ q = o)) mc ms (fun q => AA ow sz q ∨ q = o)
theorem l_of {l : Launch} {y : MethodName} {b : ByteArray} {n : Nat} {hh : List (Nat × Nat × Nat × Nat)} {fr lo mc ms e9 k9 : Nat} {r : Int32} {av : List Value} (hy : plainName y.cls = true) (hn : (lg_sl av).length ≤ n)
    (body : ∀ (p : Program) (e : Env) (s : State) (m : MethodId) (args : Array Value) (below : List Frame) (meth : Method) (c : Code) (ls : Array Slot) (f : Nat → Int64), CallFix p m c b n s args TB y.cls → c.exceptionTable.toList = tableOf hh → KJ D cI cZ cO cJ s → CW D cI cZ cO t0 L σ ow s.heap → EE t0 mi (fun q => AA ow s.heap.size q ∨ q = o) s s.heap → EX (fun q => AA ow s.heap.size q ∨ q = o) s s.heap → ¬ ow o → o < s.heap.size → va_at D vwCl (o, eLng cJ f) s.heap → NC s → meth.sig.returnType = some .int → meth.locks = false → lv_has ls n (lv_args 0 av) →
      W p l e { frames := fr, cells := mc, slots := ms, locals := lo } s m args below meth c s.heap [] 0 0 (MQ below (va_Qi (fun x (_ : Unit) => x = nI k9) (fun _ t => LB D cI cZ cO cJ t0 L σ ow o s.heap.size e9 r σ' t.heap) (fun q => AA ow s.heap.size q ∨ q = o)) args s mc ms (fun q => AA ow s.heap.size q ∨ q = o)) (F0 m 0 ls [])) : LI D cI cZ cO cJ t0 mi l y b n hh fr lo mc ms av L σ ow o e9 k9 r σ' := by
  intro sz hosz
  refine m_ofWH (cc := b) (maxL := n) (ret := some .int) (hh := hh) hy rfl ?_
  intro p e s m args below meth c s₁ B hml hv
  obtain ⟨hav, hsz, hK, hC, hE, hX, ho, ⟨f, hat⟩, hN⟩ := hv
  subst hsz
  have hws := atoms_spec (ws := wH y b n hh) B.pre
  rw [lg_entry_eq]
  have hl := lv_entry av hn
  have ht := vx_table (x := y) B (hws _ List.mem_cons_self)
  rw [hav]
  rw [hav] at B hws
  exact body p e s m av.toArray below meth c _ f ⟨B.exec, B.bytes, hml, findClass_of_methodNamed B.named, fun w hw => hws w (List.mem_cons_of_mem _ hw)⟩ ht hK hC hE hX ho hosz hat hN B.returns B.notSynchronized hl
variable {p : Program} {l : Launch} {e : Env} {R : Room} {s : State} {m : MethodId} {args : Array Value} {below : List Frame} {meth : Method} {c : Code} {H H0 : Heap} {locs : List Loc} {cells slots : Nat} {Q : State → Prop}
variable {cc : ByteArray} {pc nL : Nat} {ls : Array Slot} {rest st0 : List Value} {own : String} {A : Nat → Prop}
theorem pj_last (X : CallFix p m c cc nL s args TB own) (hK : KJ D cI cZ cO cJ s) {f : Nat → Int64} (hat : va_at D vwCl (o, eLng cJ f) H) (hS : va_S A H0 H locs) (hA : A o) {x : Int64} (d : decode cc pc = .ok (.lastore, 1))
    (kk : ∀ (H1 : Heap) (locs1 : List Loc), va_at D vwCl (o, eLng cJ (vp_updL f 0 x)) H1 → H1.size = H.size → (∀ q, q ≠ o → H1[q]? = H[q]?) → va_S A H0 H1 locs1 → W p l e R s m args below meth c H1 locs1 cells slots Q (F0 m (pc + 1) ls rest)) : W p l e R s m args below meth c H locs cells slots Q (F0 m pc ls (.long x :: .int (nI 0) :: .ref o :: rest)) := by
  refine W.last X.1 X.2.1 hat ((hK.2 3 _ rfl).1 1 (fun j => .long (f j))) (fun q => by cases q) (by show ¬ (nI 0 < 0 ∨ (arrV _ _ _).slots.size ≤ _); rw [arrV_size]; exact vp_in_nI (n := 0) (N := 1) (by decide) (by decide)) rfl rfl d fun H1 e z oq => ?_
  refine kk H1 _ ?_ z oq (hS.put z oq hA)
  show H1[o]? = some (vp_cell _ _)
  rw [e]
  rw [vp_cell_l, vp_cell_l, arrV_store]
  congr 2
  funext q
  by_cases hq : q = 0
  · subst hq
    rfl
  · rw [show (nI 0).toNatClampNeg = 0 from rfl]
    simp [updV, vp_updL, hq]
theorem pj_lald (X : CallFix p m c cc nL s args TB own) (hK : KJ D cI cZ cO cJ s) {f : Nat → Int64} (hat : va_at D vwCl (o, eLng cJ f) H) (d : decode cc pc = .ok (.laload, 1))
    (kk : W p l e R s m args below meth c H locs cells slots Q (F0 m (pc + 1) ls (.long (f 0) :: rest))) : W p l e R s m args below meth c H locs cells slots Q (F0 m pc ls (.int (nI 0) :: .ref o :: rest)) :=
  va_lald X.1 X.2.1 hK (va_P1 hat) 0 3 rfl rfl (vp_in_nI (by decide) (by decide)) d kk
section
variable {y : MethodName} {RC : String} {b : ByteArray} {n : Nat} {ret : Option FieldType} {na idx fr lo mc9 ms9 e9 : Nat} {r : Int32} {T : u_T} {ty : Nat → FieldType}
theorem y_calliK (X : CallFix p m c cc nL s args TB own) (hK : KK D cI cZ cO s) (hC : CW D cI cZ cO t0 L σ ow H) (hS : va_S A s.heap H locs) (hO : ∀ q, ow q → A q) (hN : ∀ q, s.heap.size ≤ q → A q) (hE : EE t0 mi A s s.heap) (hX : EX A s s.heap) (hY : YV y RC b n ret na) (hl : Cond.methodLink own idx y ∈ TB) {C : Nat} (kc : KC C RC T ty) {O k : Nat} (hOO : 100 * C + 99 = O) (hd : cdom σ O k) (As : List Value) (rest : List Value) (hM : YI D cI cZ cO t0 mi l y b n ret fr lo mc9 ms9 (.ref (L O k) :: As) L σ ow e9 r σ')
    (hst : st0 = As.reverse ++ .ref (L O k) :: rest) (hls : ls.size = nL) (hn : As.length = na) (hrm : (rest.map fun v => v.category).sum ≤ 8) (hR : fr + 1 ≤ R.frames ∧ 8 + (n + 11) + lo ≤ R.locals) (hc : cells + mc9 ≤ R.cells ∧ slots + ms9 ≤ R.slots) (d : decode cc pc = .ok (.invokevirtual idx, 3))
    (ke : ¬ e9 = 0 → ∀ (H1 : Heap) (locs1 : List Loc) (q : Addr) (ce : Cell), XB D cI cZ cO t0 L σ ow H.size σ' H1 → (∀ q, q < H.size → ¬ AA ow H.size q → H1[q]? = H[q]?) → va_S A s.heap H1 locs1 → H1[q]? = some ce → ce.vm = .none → s.vm.findClass (XTc e9) = some ce.cls → vx_W p l e R s m args below meth c H1 locs1 (cells + mc9) (slots + ms9) Q (F0 m pc ls rest) q)
    (kk : e9 = 0 → ∀ (H1 : Heap) (locs1 : List Loc), XB D cI cZ cO t0 L σ ow H.size σ' H1 → H.size ≤ H1.size → (∀ q, q < H.size → ¬ AA ow H.size q → H1[q]? = H[q]?) → va_S A s.heap H1 locs1 → W p l e R s m args below meth c H1 locs1 (cells + mc9) (slots + ms9) Q (F0 m (pc + 3) ls (.int r :: rest))) : W p l e R s m args below meth c H locs cells slots Q (F0 m pc ls st0) := by
  subst hst
  have hAA : ∀ q, AA ow H.size q → A q := fun q h => h.elim (hO q) (fun z => hN q (Nat.le_trans hS.1 z))
  refine vx_calli (vx_runV (As := As) (rest := rest) X (hM H.size) (yv_cw X.2.2.2.2 hY hl rfl rfl hR) ⟨yp_blind, pw_recv hK hC.1 kc hOO hd, yp_pre hK hC ((hE.at hS).narrow hAA) ((hX.at hS).narrow hAA) rfl⟩ rfl hn hls rfl (lv_room hrm) d hc) hS (fun q _ h => hAA q h) (fun q h => hAA q h) (fun q _ h => hAA q h) ?_ ?_
  · intro E ce q9 u t H1 locs1 ht _ _ hB _ hk hS1 h1 h2 h3
    rw [ht] at hB
    obtain ⟨⟨hne, rfl⟩, g⟩ := hB
    exact ke hne H1 locs1 q9 ce g hk hS1 h1 h2 h3
  · intro r1 u t H1 locs1 ht _ hw hB hz hk hS1
    obtain ⟨rfl, he⟩ := hw
    rw [ht] at hB
    exact kk he H1 locs1 hB hz hk hS1
end
/-- the wrapper's last steps: a number, and back -/
theorem l_ret (X : CallFix p m c cc nL s args TB own) (hr : meth.sig.returnType = some .int) (hlocks : meth.locks = false) {sz e9 k9 mc ms : Nat} {r : Int32} (hB : LB D cI cZ cO cJ t0 L σ ow o sz e9 r σ' H) (hS : va_S (fun q => AA ow sz q ∨ q = o) s.heap H locs) (h1 : cells ≤ mc) (h2 : slots ≤ ms) (d : decode cc pc = .ok (.ireturn, 1)) :
    W p l e R s m args below meth c H locs cells slots (MQ below (va_Qi (fun x (_ : Unit) => x = nI k9) (fun _ t => LB D cI cZ cO cJ t0 L σ ow o sz e9 r σ' t.heap) (fun q => AA ow sz q ∨ q = o)) args s mc ms (fun q => AA ow sz q ∨ q = o)) (F0 m pc ls [.int (nI k9)]) :=
  W.widen h1 h2 (W.zret X.1 X.2.1 hr rfl (fun t ht hW => ⟨⟨nI k9, (), rfl, rfl, by show LB D cI cZ cO cJ t0 L σ ow o sz e9 r σ' t.heap; rw [ht]; exact hB⟩, hS.F ht⟩) hS.2.2 d hlocks)
end LWs
/-- the classes that the law catches, by their places in its own words -/
abbrev cpX (k : Nat) : Nat := match k with | 1 => 19 | 2 => 21 | _ => 13
theorem cp_link (k : Nat) (h : k = 1 ∨ k = 2 ∨ k = 3) : Cond.classLink RL (cpX k) (XTc k) ∈ TB := by
  rcases h with rfl | rfl | rfl
  · exact tw_3_13
  · exact tw_3_14
  · exact tw_2_157
theorem ex_cast {A : Nat → Prop} {s : State} {H : Heap} {args : Array Value} (hX : EX A s H) {k : Nat} (h : k = 1 ∨ k = 2 ∨ k = 3) : (Cond.castable (XTc k) (XTc k)).before args s = true := by
  rcases h with rfl | rfl | rfl
  · exact va_Nw.use rfl (hX.2.2.2 _ (List.mem_of_getElem? (i := 0) rfl))
  · exact va_Nw.use rfl (hX.2.2.2 _ (List.mem_of_getElem? (i := 1) rfl))
  · exact va_Nw.use rfl (hX.2.2.2 _ (List.mem_of_getElem? (i := 2) rfl))
def wk (T : List Nat) (e : Nat) : Nat := (0 :: T).idxOf e
theorem lb_of {D : va_G} {cI cZ cO cJ : ClassId} {t0 o e9 : Nat} {L : Lay} {σ σ' : St} {ow : Nat → Prop} {H0 H1 H2 : Heap} {r : Int32} {f : Nat → Int64} (hB : XB D cI cZ cO t0 L σ ow H0.size σ' H1) (ho : ¬ ow o) (hos : o < H0.size) (hk2 : ∀ q, q ≠ o → H2[q]? = H1[q]?) (hat : va_at D vwCl (o, eLng cJ f) H2) (hf : e9 = 0 → f 0 = r.toInt64) : LB D cI cZ cO cJ t0 L σ ow o H0.size e9 r σ' H2 := by
  obtain ⟨L', ow', h1, h2, h3⟩ := hB
  exact ⟨⟨L', ow', h1, h2, h3.1.kept (fun q _ hw => hk2 q (fun z => (h2 q hw).elim (fun y => ho (by rw [← z]; exact y)) (fun y => by omega))), h3.2⟩, f, hat, hf⟩
