/-! CONTRACTS that return or throw: e = 0 returned, else the class XTc e -/
def YQi (e : Nat) (r : Int32) (Ω : Heap → Prop) (A : Nat → Prop) : Array Value → State → Outcome → State → Prop := va_Qi (fun x (_ : Unit) => x = r ∧ e = 0) (fun _ t => Ω t.heap) A
def YQv (e : Nat) (Ω : Heap → Prop) (A : Nat → Prop) : Array Value → State → Outcome → State → Prop := va_Qv (fun (_ : Unit) => e = 0) (fun _ t => Ω t.heap) A
def YQq (e : Nat) (r : Option Nat) (Ω : Heap → Prop) (A : Nat → Prop) : Array Value → State → Outcome → State → Prop := va_Qq (fun x (_ : Unit) => x = r ∧ e = 0) (fun _ t => Ω t.heap) A
def YX (e : Nat) (Ω : Heap → Prop) (A : Nat → Prop) : String → State → State → Prop := vx_X (fun (_ : Unit) => True) (fun E _ t => (¬ e = 0 ∧ E = XTc e) ∧ Ω t.heap) A
section
variable {p : Program} {l : Launch} {e : Env} {R : Room} {s : State} {m : MethodId} {args : Array Value} {below : List Frame} {meth : Method} {c : Code} {H : Heap} {locs : List Loc} {cells slots : Nat} {Q : State → Prop}
variable {mc ms : Nat} {free : Addr → Prop} {A0 A1 : Nat → Prop} {H0 : Heap} {a : Array Value} {pc : Nat} {ls : Array Slot} {st0 rest : List Value}
theorem vx_callq {S SX : Type} {post : Option Nat → S → Prop} {px : SX → Prop} {B : S → State → Prop} {BX : String → SX → State → Prop} {AX : Nat → Prop} (hr : vx_Run p l e R s m args below meth c H locs cells slots mc ms (F0 m pc ls st0) rest (va_Qq post B A1 a) (vx_X px BX AX) free) (hS : va_S A0 H0 H locs) (hA : ∀ q, q < H.size → A1 q → A0 q) (hf : ∀ q, free q → A0 q) (hAX : ∀ q, q < H.size → AX q → A0 q)
    (kx : ∀ (E : String) (ce : Cell) (q9 : Addr) (u : SX) (t : State) (H1 : Heap) (locs1 : List Loc), t.heap = H1 → s.vm.Alike t.vm → px u → BX E u t → H.size ≤ H1.size → (∀ q : Nat, q < H.size → ¬ AX q → H1[q]? = H[q]?) → va_S A0 H0 H1 locs1 → H1[q9]? = some ce → ce.vm = .none → s.vm.findClass E = some ce.cls → vx_W p l e R s m args below meth c H1 locs1 (cells + mc) (slots + ms) Q (F0 m pc ls rest) q9)
    (kk : ∀ (r : Option Nat) (u : S) (t : State) (H1 : Heap) (locs1 : List Loc), t.heap = H1 → s.vm.Alike t.vm → post r u → B u t → H.size ≤ H1.size → (∀ q : Nat, q < H.size → ¬ A1 q → H1[q]? = H[q]?) → va_S A0 H0 H1 locs1 → W p l e R s m args below meth c H1 locs1 (cells + mc) (slots + ms) Q (F0 m (pc + 3) ls (va_rf r :: rest))) : W p l e R s m args below meth c H locs cells slots Q (F0 m pc ls st0) := by
  intro T hT X
  rcases hr T hT X with ⟨v, st₀, t, T', L, h0, X', hL, e1, e2, ⟨⟨r, u, hv, hp, hb⟩, hF⟩, st⟩ | ⟨q, st₀, t, T', L, E, ce, h0, X', hL, e1, e2, ⟨u, hp, hb, hF⟩, hce, hcv, hcl, st⟩
  · cases hv
    obtain ⟨k1, k2, k3⟩ := vx_keep h0 e1 hS hA hf hL hF
    obtain ⟨t2, a1, b1⟩ := kk r u t T'.heap (locs ++ L) e1.symm (by rw [← e2]; exact X'.warmed.alike) hp hb k1 k2 k3 T' rfl X'
    exact ⟨t2, st t2 a1, b1⟩
  · obtain ⟨k1, k2, k3⟩ := vx_keep h0 e1 hS hAX hf hL hF
    obtain ⟨t2, a1, b1⟩ := kx E ce q u t T'.heap (locs ++ L) e1.symm (by rw [← e2]; exact X'.warmed.alike) hp hb k1 k2 k3 (by rw [e1]; exact hce) hcv hcl T' rfl X'
    exact ⟨t2, st.trans a1, b1⟩
end
section YRs
variable {D : va_G} {cI cZ cO : ClassId} {t0 mi : Nat} {dom : Nat → Nat → Prop} {L : Lay} {σ σ' : St} {ow : Nat → Prop}
variable {p : Program} {l : Launch} {e : Env} {R : Room} {s : State} {m : MethodId} {args : Array Value} {below : List Frame} {meth : Method} {c : Code} {H H0 : Heap} {locs : List Loc} {cells slots mc ms : Nat} {Q : State → Prop}
variable {cc : ByteArray} {pc nL : Nat} {ls : Array Slot} {rest st0 : List Value} {own : String} {A free : Nat → Prop} {e9 : Nat} {Ω : Heap → Prop} {Qc : Array Value → State → Outcome → State → Prop}
def ZP (D : va_G) (cI cZ cO : ClassId) (dom : Nat → Nat → Prop) (L : Lay) (σ : St) (ow : Nat → Prop) (sz : Nat) (av : List Value) : Array Value → State → Prop := va_Pc av (fun U => U.heap.size = sz ∧ KK D cI cZ cO U ∧ PW D cI cZ cO dom L σ ow U.heap ∧ EX (AA ow sz) U U.heap)
def YP (D : va_G) (cI cZ cO : ClassId) (t0 mi : Nat) (L : Lay) (σ : St) (ow : Nat → Prop) (sz : Nat) (av : List Value) : Array Value → State → Prop := va_Pc av (fun U => U.heap.size = sz ∧ KK D cI cZ cO U ∧ CW D cI cZ cO t0 L σ ow U.heap ∧ EE t0 mi (AA ow sz) U U.heap ∧ EX (AA ow sz) U U.heap)
theorem vx_Zq.same {C n d : String} {A : Nat → Prop} {u U : State} {H : Heap} (h : u.vm = U.vm) (g : vx_Zq C n d A u H) : vx_Zq C n d A U H := g.moved (by rw [h]; exact Vm.Alike.refl _)
theorem EX.same {u U : State} (hv : u.vm = U.vm) (h : EX A u H) : EX A U H := ⟨h.1.same hv, h.2.1.same hv, fun z hz => (h.2.2.1 z hz).elim (fun a ha => ⟨a, ha.same hv.symm⟩), fun w hw => by
  have hx := h.2.2.2 w hw
  have : w.onTables = true := by
    have h9 : exL.all (fun w => w.onTables) = true := by decide +kernel
    exact List.all_eq_true.mp h9 w hw
  exact va_Nw.same this hv hx⟩
theorem zp_blind {sz : Nat} {av : List Value} : FrameBlind (ZP D cI cZ cO dom L σ ow sz av) := fun a U g mk q => by
  obtain ⟨q0, q1, q2, q3, q4⟩ := q
  exact ⟨q0, q1, va_K.moved (u := U) (U := U.calling g mk a) (Vm.Alike.refl U.vm) q2, q3, EX.same (u := U) (U := U.calling g mk a) rfl q4⟩
theorem yp_blind {sz : Nat} {av : List Value} : FrameBlind (YP D cI cZ cO t0 mi L σ ow sz av) := fun a U g mk q => by
  obtain ⟨q0, q1, q2, q3, q4, q5⟩ := q
  exact ⟨q0, q1, va_K.moved (u := U) (U := U.calling g mk a) (Vm.Alike.refl U.vm) q2, q3, q4.moved (U := U.calling g mk a) (Vm.Alike.refl U.vm), EX.same (u := U) (U := U.calling g mk a) rfl q5⟩
theorem zp_pre {sz : Nat} {av : List Value} (hK : KK D cI cZ cO s) (hG : PW D cI cZ cO dom L σ ow H) (hX : EX (AA ow sz) s H) (hsz : H.size = sz) : ∀ U : State, U.heap = H → s.WarmedH U.vm → ZP D cI cZ cO dom L σ ow sz av av.toArray U := fun U hU hW => ⟨rfl, by rw [hU]; exact hsz, va_K.moved hW.alike hK, by rw [hU]; exact hG, by rw [hU]; exact hX.warm hW⟩
theorem yp_pre {sz : Nat} {av : List Value} (hK : KK D cI cZ cO s) (hC : CW D cI cZ cO t0 L σ ow H) (hE : EE t0 mi (AA ow sz) s H) (hX : EX (AA ow sz) s H) (hsz : H.size = sz) : ∀ U : State, U.heap = H → s.WarmedH U.vm → YP D cI cZ cO t0 mi L σ ow sz av av.toArray U := fun U hU hW => ⟨rfl, by rw [hU]; exact hsz, va_K.moved hW.alike hK, by rw [hU]; exact hC, by rw [hU]; exact hE.moved hW.alike, by rw [hU]; exact hX.warm hW⟩
def ZI (D : va_G) (cI cZ cO : ClassId) (dom : Nat → Nat → Prop) (l : Launch) (y : MethodName) (b : ByteArray) (n : Nat) (ret : Option FieldType) (fr lo mc ms : Nat) (av : List Value) (L : Lay) (σ : St) (ow : Nat → Prop) (e9 : Nat) (r : Int32) (σ' : St) : Prop :=
  ∀ sz : Nat, vx_Met l y (wM y b n ret) { frames := fr, cells := mc, slots := ms, locals := lo } (ZP D cI cZ cO dom L σ ow sz av) (YQi e9 r (PW D cI cZ cO dom L σ' ow) (AA ow sz)) (YX e9 (PW D cI cZ cO dom L σ' ow) (AA ow sz)) mc ms (AA ow sz)
def ZR (D : va_G) (cI cZ cO : ClassId) (dom : Nat → Nat → Prop) (l : Launch) (y : MethodName) (b : ByteArray) (n : Nat) (ret : Option FieldType) (fr lo mc ms : Nat) (av : List Value) (L : Lay) (σ : St) (ow : Nat → Prop) (e9 : Nat) (r : Option Nat) (σ' : St) : Prop :=
  ∀ sz : Nat, vx_Met l y (wM y b n ret) { frames := fr, cells := mc, slots := ms, locals := lo } (ZP D cI cZ cO dom L σ ow sz av) (YQq e9 r (PW D cI cZ cO dom L σ' ow) (AA ow sz)) (YX e9 (PW D cI cZ cO dom L σ' ow) (AA ow sz)) mc ms (AA ow sz)
def YI (D : va_G) (cI cZ cO : ClassId) (t0 mi : Nat) (l : Launch) (y : MethodName) (b : ByteArray) (n : Nat) (ret : Option FieldType) (fr lo mc ms : Nat) (av : List Value) (L : Lay) (σ : St) (ow : Nat → Prop) (e9 : Nat) (r : Int32) (σ' : St) : Prop :=
  ∀ sz : Nat, vx_Met l y (wM y b n ret) { frames := fr, cells := mc, slots := ms, locals := lo } (YP D cI cZ cO t0 mi L σ ow sz av) (YQi e9 r (XB D cI cZ cO t0 L σ ow sz σ') (AA ow sz)) (YX e9 (XB D cI cZ cO t0 L σ ow sz σ') (AA ow sz)) mc ms (AA ow sz)
def YVo (D : va_G) (cI cZ cO : ClassId) (t0 mi : Nat) (l : Launch) (y : MethodName) (b : ByteArray) (n : Nat) (fr lo mc ms : Nat) (av : List Value) (L : Lay) (σ : St) (ow : Nat → Prop) (e9 : Nat) (σ' : St) : Prop :=
  ∀ sz : Nat, vx_Met l y (wM y b n none) { frames := fr, cells := mc, slots := ms, locals := lo } (YP D cI cZ cO t0 mi L σ ow sz av) (YQv e9 (XB D cI cZ cO t0 L σ ow sz σ') (AA ow sz)) (YX e9 (XB D cI cZ cO t0 L σ ow sz σ') (AA ow sz)) mc ms (AA ow sz)
theorem z_of {l : Launch} {y : MethodName} {b : ByteArray} {n : Nat} {ret : Option FieldType} {rm : Room} {av : List Value} {Qc : Nat → Array Value → State → Outcome → State → Prop} {XC : Nat → String → State → State → Prop} (hy : plainName y.cls = true) (hn : (lg_sl av).length ≤ n)
    (body : ∀ (p : Program) (e : Env) (s : State) (m : MethodId) (args : Array Value) (below : List Frame) (meth : Method) (c : Code) (ls : Array Slot), CallFix p m c b n s args TB y.cls → (∀ x ∈ c.exceptionTable.toList, False) → KK D cI cZ cO s → PW D cI cZ cO dom L σ ow s.heap → EX (AA ow s.heap.size) s s.heap → meth.sig.returnType = ret → meth.locks = false → lv_has ls n (lv_args 0 av) →
      W p l e rm s m args below meth c s.heap [] 0 0 (vx_MQ below (Qc s.heap.size) (XC s.heap.size) args s mc ms (AA ow s.heap.size)) (F0 m 0 ls [])) : ∀ sz : Nat, vx_Met l y (wM y b n ret) rm (ZP D cI cZ cO dom L σ ow sz av) (Qc sz) (XC sz) mc ms (AA ow sz) := by
  intro sz
  refine vx_ofW (cc := b) (maxL := n) (ret := ret) hy rfl ?_
  intro p e s m args below meth c s₁ B hml hex hv
  obtain ⟨hav, hsz, hK, hG, hX⟩ := hv
  subst hsz
  rw [lg_entry_eq]
  have hl := lv_entry av hn
  rw [hav]
  rw [hav] at B
  exact body p e s m av.toArray below meth c _ ⟨B.exec, B.bytes, hml, findClass_of_methodNamed B.named, wm_hts (atoms_spec (ws := wM y b n ret) B.pre)⟩ hex hK hG hX B.returns B.notSynchronized hl
theorem y_of {l : Launch} {y : MethodName} {b : ByteArray} {n : Nat} {ret : Option FieldType} {rm : Room} {av : List Value} {Qc : Nat → Array Value → State → Outcome → State → Prop} {XC : Nat → String → State → State → Prop} (hy : plainName y.cls = true) (hn : (lg_sl av).length ≤ n)
    (body : ∀ (p : Program) (e : Env) (s : State) (m : MethodId) (args : Array Value) (below : List Frame) (meth : Method) (c : Code) (ls : Array Slot), CallFix p m c b n s args TB y.cls → (∀ x ∈ c.exceptionTable.toList, False) → KK D cI cZ cO s → CW D cI cZ cO t0 L σ ow s.heap → EE t0 mi (AA ow s.heap.size) s s.heap → EX (AA ow s.heap.size) s s.heap → meth.sig.returnType = ret → meth.locks = false → lv_has ls n (lv_args 0 av) →
      W p l e rm s m args below meth c s.heap [] 0 0 (vx_MQ below (Qc s.heap.size) (XC s.heap.size) args s mc ms (AA ow s.heap.size)) (F0 m 0 ls [])) : ∀ sz : Nat, vx_Met l y (wM y b n ret) rm (YP D cI cZ cO t0 mi L σ ow sz av) (Qc sz) (XC sz) mc ms (AA ow sz) := by
  intro sz
  refine vx_ofW (cc := b) (maxL := n) (ret := ret) hy rfl ?_
  intro p e s m args below meth c s₁ B hml hex hv
  obtain ⟨hav, hsz, hK, hC, hE, hX⟩ := hv
  subst hsz
  rw [lg_entry_eq]
  have hl := lv_entry av hn
  rw [hav]
  rw [hav] at B
  exact body p e s m av.toArray below meth c _ ⟨B.exec, B.bytes, hml, findClass_of_methodNamed B.named, wm_hts (atoms_spec (ws := wM y b n ret) B.pre)⟩ hex hK hC hE hX B.returns B.notSynchronized hl
variable {XC : String → State → State → Prop}
theorem y_reti (hx : p.tables.exec = Jvm.exec) (hb : c.code = cc) {ty : FieldType} (hr : meth.sig.returnType = some ty) (hlocks : meth.locks = false) (hO : Ω H) (hS : va_S A s.heap H locs) {v r : Int32} (hv : v = r) (he : e9 = 0) (hn : narrow ty (.int v) = .int v) (h1 : cells ≤ mc) (h2 : slots ≤ ms) (d : decode cc pc = .ok (.ireturn, 1)) :
    W p l e R s m args below meth c H locs cells slots (vx_MQ below (YQi e9 r Ω A) XC args s mc ms A) (F0 m pc ls [.int v]) :=
  vx_ret (W.widen h1 h2 (W.zret hx hb hr hn (fun t ht hW => ⟨⟨v, (), rfl, ⟨hv, he⟩, by show Ω t.heap; rw [ht]; exact hO⟩, hS.F ht⟩) hS.2.2 d hlocks))
theorem y_retv (hx : p.tables.exec = Jvm.exec) (hb : c.code = cc) (hr : meth.sig.returnType = none) (hlocks : meth.locks = false) (hO : Ω H) (hS : va_S A s.heap H locs) (he : e9 = 0) (h1 : cells ≤ mc) (h2 : slots ≤ ms) (d : decode cc pc = .ok (.return_, 1)) :
    W p l e R s m args below meth c H locs cells slots (vx_MQ below (YQv e9 Ω A) XC args s mc ms A) (F0 m pc ls []) :=
  vx_ret (W.widen h1 h2 (W.vret hx hb hr (fun t ht hW => ⟨⟨(), rfl, he, by show Ω t.heap; rw [ht]; exact hO⟩, hS.F ht⟩) hS.2.2 d hlocks))
theorem y_retq (hx : p.tables.exec = Jvm.exec) (hb : c.code = cc) {ty : FieldType} (hr : meth.sig.returnType = some ty) (hty : (∃ n, ty = .object n) ∨ ∃ t, ty = .array t) (hlocks : meth.locks = false) (hO : Ω H) (hS : va_S A s.heap H locs) {v r : Option Nat} (hv : v = r) (he : e9 = 0) (h1 : cells ≤ mc) (h2 : slots ≤ ms) (d : decode cc pc = .ok (.areturn, 1)) :
    W p l e R s m args below meth c H locs cells slots (vx_MQ below (YQq e9 r Ω A) XC args s mc ms A) (F0 m pc ls [va_rf v]) :=
  vx_ret (W.widen h1 h2 (W.aret hx hb hr hty (va_rf_or v) (fun t ht hW => ⟨⟨v, (), rfl, ⟨hv, he⟩, by show Ω t.heap; rw [ht]; exact hO⟩, hS.F ht⟩) hS.2.2 d hlocks))
/-- thrown by a callee: on to the caller -/
theorem y_out {ce : Cell} {q : Addr} {e8 : Nat} (hex : ∀ x ∈ c.exceptionTable.toList, False) (hlocks : meth.locks = false) (hO : Ω H) (hS : va_S A s.heap H locs) (hcell : H[q]? = some ce) (hv : ce.vm = .none) (hcl : s.vm.findClass (XTc e8) = some ce.cls) (h0 : ¬ e8 = 0) (he : e9 = e8) (h1 : cells ≤ mc) (h2 : slots ≤ ms) :
    vx_W p l e R s m args below meth c H locs cells slots (vx_MQ below Qc (YX e9 Ω A) args s mc ms A) (F0 m pc ls rest) q := by
  subst he
  exact vx_out (E := XTc e9) (fun x hx => (hex x hx).elim) hlocks hcell hv hcl (fun t ht _ => ⟨(), trivial, ⟨⟨h0, rfl⟩, by show Ω t.heap; rw [ht]; exact hO⟩, hS.F ht⟩) hS.2.2 h1 h2
theorem ox_free {Ω : Heap → Prop} (hS : va_S A s.heap H locs) (hO : ∀ H1 : Heap, H.size ≤ H1.size → (∀ q : Nat, q < H.size → H1[q]? = H[q]?) → Ω H1) (h0 : ¬ e9 = 0) : ∀ t : State, s.vm.Alike t.vm → H.size ≤ t.heap.size → (∀ q : Nat, q < H.size → t.heap[q]? = H[q]?) → YX e9 Ω A (XTc e9) s t := fun t _ hz hq =>
  ⟨(), trivial, ⟨⟨h0, rfl⟩, hO _ hz hq⟩, Nat.le_trans hS.1 hz, fun q h1 h2 => (hq q (Nat.lt_of_lt_of_le h1 hS.1)).trans (hS.2.1 q h1 h2)⟩
theorem y_throw {ik is ic e8 : Nat} {tx : String} (hx : p.tables.exec = Jvm.exec) (X : CallFix p m c cc nL s args TB RX8) (hl9 : l.stackTraces = false) (hw : XWk ik ic e8) (hX : EX A s s.heap) (hz : (is, tx) ∈ strs) (hex : ∀ x ∈ c.exceptionTable.toList, False) (hlocks : meth.locks = false) (hls : ls.size = nL) (hS : va_S A s.heap H locs) (hO : ∀ H1 : Heap, H.size ≤ H1.size → (∀ q : Nat, q < H.size → H1[q]? = H[q]?) → Ω H1) (h0 : ¬ e8 = 0) (he : e9 = e8)
    (d0 : decode cc pc = .ok (.new ik, 3)) (d3 : decode cc (pc + 3) = .ok (.dup, 1)) (d4 : decode cc (pc + 4) = .ok (.ldc is, 2)) (d6 : decode cc (pc + 6) = .ok (.invokespecial ic, 3)) (d9 : decode cc (pc + 9) = .ok (.athrow, 1)) (hf : 5 < R.frames) (hlo : (rest.map fun v => v.category).sum + 82 ≤ R.locals) (hc : cells + 1 ≤ R.cells) (hs : slots + 6 ≤ R.slots) (hc2 : cells + 1 ≤ mc) (hs2 : slots + 6 ≤ ms) :
    W p l e R s m args below meth c H locs cells slots (vx_MQ below Qc (YX e9 Ω A) args s mc ms A) (F0 m pc ls rest) := by
  subst he
  obtain ⟨w1, w2, w3, w4, w5, w6⟩ := hw
  obtain ⟨sa, hsa⟩ := hX.2.2.1 _ hz
  exact vx_throwS hx X.2.1 hl9 (own := RX8) (cls := XTc e9) (names := names2) (A := A) X.2.2.2.1 w1 (by decide +kernel) (X.2.2.2.2 _ w2) (X.2.2.2.2 _ w3) hsa (vx_hat (fun w h => X.2.2.2.2 _ (w4 w h)) w5 (fun w h => va_Nw.use (List.all_eq_true.mp (show exL.all (fun w => w.onTables) = true by decide +kernel) w h) (hX.2.2.2 w h))) w6 hX.1 hX.2.1 hS (hls.trans X.2.2.1.symm) d0 d3 d4 d6 d9 (fun x h => (hex x h).elim) hf hlo hc hs hlocks (ox_free hS hO h0) hS.2.2 hc2 hs2
theorem y_throwW {ik is ic e8 : Nat} {tx : String} (hx : p.tables.exec = Jvm.exec) (X : CallFix p m c cc nL s args TB RX8) (hl9 : l.stackTraces = false) (hw : XWk ik ic e8) (hX : EX A s s.heap) (hz : (is, tx) ∈ strs) (hex : ∀ x ∈ c.exceptionTable.toList, False) (hlocks : meth.locks = false) (hls : ls.size = nL) (hS : va_S A s.heap H locs) (hO : ∀ H1 : Heap, H.size ≤ H1.size → (∀ q : Nat, q < H.size → H1[q]? = H[q]?) → Ω H1) (h0 : ¬ e8 = 0) (he : e9 = e8)
    (d0 : decode cc pc = .ok (.new ik, 3)) (d3 : decode cc (pc + 3) = .ok (.dup, 1)) (d4 : decode cc (pc + 4) = .ok (.ldc_w is, 3)) (d6 : decode cc (pc + 7) = .ok (.invokespecial ic, 3)) (d9 : decode cc (pc + 10) = .ok (.athrow, 1)) (hf : 5 < R.frames) (hlo : (rest.map fun v => v.category).sum + 82 ≤ R.locals) (hc : cells + 1 ≤ R.cells) (hs : slots + 6 ≤ R.slots) (hc2 : cells + 1 ≤ mc) (hs2 : slots + 6 ≤ ms) :
    W p l e R s m args below meth c H locs cells slots (vx_MQ below Qc (YX e9 Ω A) args s mc ms A) (F0 m pc ls rest) := by
  subst he
  obtain ⟨w1, w2, w3, w4, w5, w6⟩ := hw
  obtain ⟨sa, hsa⟩ := hX.2.2.1 _ hz
  exact vx_throwSW hx X.2.1 hl9 (own := RX8) (cls := XTc e9) (names := names2) (A := A) X.2.2.2.1 w1 (by decide +kernel) (X.2.2.2.2 _ w2) (X.2.2.2.2 _ w3) hsa (vx_hat (fun w h => X.2.2.2.2 _ (w4 w h)) w5 (fun w h => va_Nw.use (List.all_eq_true.mp (show exL.all (fun w => w.onTables) = true by decide +kernel) w h) (hX.2.2.2 w h))) w6 hX.1 hX.2.1 hS (hls.trans X.2.2.1.symm) d0 d3 d4 d6 d9 (fun x h => (hex x h).elim) hf hlo hc hs hlocks (ox_free hS hO h0) hS.2.2 hc2 hs2
theorem pw_ext (hG : PW D cI cZ cO dom L σ ow H) : ∀ H1 : Heap, H.size ≤ H1.size → (∀ q : Nat, q < H.size → H1[q]? = H[q]?) → PW D cI cZ cO dom L σ ow H1 := fun H1 _ hq => hG.kept (fun q h _ => hq q h)
theorem xb_ext {L0 : Lay} {σ0 : St} {ow0 : Nat → Prop} {sz : Nat} (hB : XB D cI cZ cO t0 L0 σ0 ow0 sz σ H) : ∀ H1 : Heap, H.size ≤ H1.size → (∀ q : Nat, q < H.size → H1[q]? = H[q]?) → XB D cI cZ cO t0 L0 σ0 ow0 sz σ H1 := fun H1 hz hq => by
  obtain ⟨L', ow', h1, h2, h3, h4⟩ := hB
  exact ⟨L', ow', h1, h2, pw_ext h3 H1 hz hq, h4⟩
section
variable {y : MethodName} {RC : String} {b : ByteArray} {n : Nat} {ret : Option FieldType} {na idx fr lo mc9 ms9 : Nat} {r : Int32} {rq : Option Nat} {T : u_T} {ty : Nat → FieldType}
theorem z_calliV (X : CallFix p m c cc nL s args TB own) (hK : KK D cI cZ cO s) (hG : PW D cI cZ cO dom L σ ow H) (hS : va_S A s.heap H locs) (hA : ∀ q, AA ow s.heap.size q → A q) (hX : EX A s s.heap) (hY : YV y RC b n ret na) (hl : Cond.methodLink own idx y ∈ TB) {C : Nat} (kc : KC C RC T ty) {O k : Nat} (hOO : 100 * C + 99 = O) (hd : dom O k) (As : List Value) (rest : List Value) (hM : ZI D cI cZ cO dom l y b n ret fr lo mc9 ms9 (.ref (L O k) :: As) L σ ow e9 r σ')
    (hst : st0 = As.reverse ++ .ref (L O k) :: rest) (hls : ls.size = nL) (hn : As.length = na) (hrm : (rest.map fun v => v.category).sum ≤ 8) (hR : fr + 1 ≤ R.frames ∧ 8 + (n + 11) + lo ≤ R.locals) (hc : cells + mc9 ≤ R.cells ∧ slots + ms9 ≤ R.slots) (d : decode cc pc = .ok (.invokevirtual idx, 3))
    (ke : ¬ e9 = 0 → ∀ (H1 : Heap) (locs1 : List Loc) (q : Addr) (ce : Cell), PW D cI cZ cO dom L σ' ow H1 → va_S A s.heap H1 locs1 → H1[q]? = some ce → ce.vm = .none → s.vm.findClass (XTc e9) = some ce.cls → vx_W p l e R s m args below meth c H1 locs1 (cells + mc9) (slots + ms9) Q (F0 m pc ls rest) q)
    (kk : e9 = 0 → ∀ (H1 : Heap) (locs1 : List Loc), PW D cI cZ cO dom L σ' ow H1 → va_S A s.heap H1 locs1 → W p l e R s m args below meth c H1 locs1 (cells + mc9) (slots + ms9) Q (F0 m (pc + 3) ls (.int r :: rest))) : W p l e R s m args below meth c H locs cells slots Q (F0 m pc ls st0) := by
  subst hst
  have hAA : ∀ q, AA ow H.size q → A q := fun q h => hA q (aa_le hS.1 q h)
  refine vx_calli (vx_runV (As := As) (rest := rest) X (hM H.size) (yv_cw X.2.2.2.2 hY hl rfl rfl hR) ⟨zp_blind, pw_recv hK hG kc hOO hd, zp_pre hK hG ((hX.at hS).narrow hAA) rfl⟩ rfl hn hls rfl (lv_room hrm) d hc) hS (fun q _ h => hAA q h) (fun q h => hAA q h) (fun q _ h => hAA q h) ?_ ?_
  · intro E ce q9 u t H1 locs1 ht _ _ hB _ _ hS1 h1 h2 h3
    rw [ht] at hB
    obtain ⟨⟨hne, rfl⟩, hG1⟩ := hB
    exact ke hne H1 locs1 q9 ce hG1 hS1 h1 h2 h3
  · intro r1 u t H1 locs1 ht _ hw hB _ _ hS1
    obtain ⟨rfl, he⟩ := hw
    rw [ht] at hB
    exact kk he H1 locs1 hB hS1
theorem z_callqV (X : CallFix p m c cc nL s args TB own) (hK : KK D cI cZ cO s) (hG : PW D cI cZ cO dom L σ ow H) (hS : va_S A s.heap H locs) (hA : ∀ q, AA ow s.heap.size q → A q) (hX : EX A s s.heap) (hY : YV y RC b n ret na) (hl : Cond.methodLink own idx y ∈ TB) {C : Nat} (kc : KC C RC T ty) {O k : Nat} (hOO : 100 * C + 99 = O) (hd : dom O k) (As : List Value) (rest : List Value) (hM : ZR D cI cZ cO dom l y b n ret fr lo mc9 ms9 (.ref (L O k) :: As) L σ ow e9 rq σ')
    (hst : st0 = As.reverse ++ .ref (L O k) :: rest) (hls : ls.size = nL) (hn : As.length = na) (hrm : (rest.map fun v => v.category).sum ≤ 8) (hR : fr + 1 ≤ R.frames ∧ 8 + (n + 11) + lo ≤ R.locals) (hc : cells + mc9 ≤ R.cells ∧ slots + ms9 ≤ R.slots) (d : decode cc pc = .ok (.invokevirtual idx, 3))
    (ke : ¬ e9 = 0 → ∀ (H1 : Heap) (locs1 : List Loc) (q : Addr) (ce : Cell), PW D cI cZ cO dom L σ' ow H1 → va_S A s.heap H1 locs1 → H1[q]? = some ce → ce.vm = .none → s.vm.findClass (XTc e9) = some ce.cls → vx_W p l e R s m args below meth c H1 locs1 (cells + mc9) (slots + ms9) Q (F0 m pc ls rest) q)
    (kk : e9 = 0 → ∀ (H1 : Heap) (locs1 : List Loc), PW D cI cZ cO dom L σ' ow H1 → va_S A s.heap H1 locs1 → W p l e R s m args below meth c H1 locs1 (cells + mc9) (slots + ms9) Q (F0 m (pc + 3) ls (va_rf rq :: rest))) : W p l e R s m args below meth c H locs cells slots Q (F0 m pc ls st0) := by
  subst hst
  have hAA : ∀ q, AA ow H.size q → A q := fun q h => hA q (aa_le hS.1 q h)
  refine vx_callq (vx_runV (As := As) (rest := rest) X (hM H.size) (yv_cw X.2.2.2.2 hY hl rfl rfl hR) ⟨zp_blind, pw_recv hK hG kc hOO hd, zp_pre hK hG ((hX.at hS).narrow hAA) rfl⟩ rfl hn hls rfl (lv_room hrm) d hc) hS (fun q _ h => hAA q h) (fun q h => hAA q h) (fun q _ h => hAA q h) ?_ ?_
  · intro E ce q9 u t H1 locs1 ht _ _ hB _ _ hS1 h1 h2 h3
    rw [ht] at hB
    obtain ⟨⟨hne, rfl⟩, hG1⟩ := hB
    exact ke hne H1 locs1 q9 ce hG1 hS1 h1 h2 h3
  · intro r1 u t H1 locs1 ht _ hw hB _ _ hS1
    obtain ⟨rfl, he⟩ := hw
    rw [ht] at hB
    exact kk he H1 locs1 hB hS1
theorem y_calliV (X : CallFix p m c cc nL s args TB own) (hK : KK D cI cZ cO s) (hC : CW D cI cZ cO t0 L σ ow H) (hS : va_S A s.heap H locs) (hO : ∀ q, ow q → A q) (hN : ∀ q, s.heap.size ≤ q → A q) (hE : EE t0 mi A s s.heap) (hX : EX A s s.heap) (hY : YV y RC b n ret na) (hl : Cond.methodLink own idx y ∈ TB) {C : Nat} (kc : KC C RC T ty) {O k : Nat} (hOO : 100 * C + 99 = O) (hd : cdom σ O k) (As : List Value) (rest : List Value) (hM : YI D cI cZ cO t0 mi l y b n ret fr lo mc9 ms9 (.ref (L O k) :: As) L σ ow e9 r σ')
    (hst : st0 = As.reverse ++ .ref (L O k) :: rest) (hls : ls.size = nL) (hn : As.length = na) (hrm : (rest.map fun v => v.category).sum ≤ 8) (hR : fr + 1 ≤ R.frames ∧ 8 + (n + 11) + lo ≤ R.locals) (hc : cells + mc9 ≤ R.cells ∧ slots + ms9 ≤ R.slots) (d : decode cc pc = .ok (.invokevirtual idx, 3))
    (ke : ¬ e9 = 0 → ∀ (L' : Lay) (ow' : Nat → Prop) (H1 : Heap) (locs1 : List Loc) (q : Addr) (ce : Cell), (∀ F k, cdom σ F k → F ≠ 1001 → L' F k = L F k) → (∀ q, ow' q → A q) → CW D cI cZ cO t0 L' σ' ow' H1 → va_S A s.heap H1 locs1 → H1[q]? = some ce → ce.vm = .none → s.vm.findClass (XTc e9) = some ce.cls → vx_W p l e R s m args below meth c H1 locs1 (cells + mc9) (slots + ms9) Q (F0 m pc ls rest) q)
    (kk : e9 = 0 → ∀ (L' : Lay) (ow' : Nat → Prop) (H1 : Heap) (locs1 : List Loc), (∀ F k, cdom σ F k → F ≠ 1001 → L' F k = L F k) → (∀ q, ow' q → A q) → CW D cI cZ cO t0 L' σ' ow' H1 → va_S A s.heap H1 locs1 → W p l e R s m args below meth c H1 locs1 (cells + mc9) (slots + ms9) Q (F0 m (pc + 3) ls (.int r :: rest))) : W p l e R s m args below meth c H locs cells slots Q (F0 m pc ls st0) := by
  subst hst
  have hAA : ∀ q, AA ow H.size q → A q := fun q h => h.elim (hO q) (fun z => hN q (Nat.le_trans hS.1 z))
  refine vx_calli (vx_runV (As := As) (rest := rest) X (hM H.size) (yv_cw X.2.2.2.2 hY hl rfl rfl hR) ⟨yp_blind, pw_recv hK hC.1 kc hOO hd, yp_pre hK hC ((hE.at hS).narrow hAA) ((hX.at hS).narrow hAA) rfl⟩ rfl hn hls rfl (lv_room hrm) d hc) hS (fun q _ h => hAA q h) (fun q h => hAA q h) (fun q _ h => hAA q h) ?_ ?_
  · intro E ce q9 u t H1 locs1 ht _ _ hB _ _ hS1 h1 h2 h3
    rw [ht] at hB
    obtain ⟨⟨hne, rfl⟩, L', ow', g1, g2, g3⟩ := hB
    exact ke hne L' ow' H1 locs1 q9 ce g1 (fun q h => hAA q (g2 q h)) g3 hS1 h1 h2 h3
  · intro r1 u t H1 locs1 ht _ hw hB _ _ hS1
    obtain ⟨rfl, he⟩ := hw
    rw [ht] at hB
    obtain ⟨L', ow', g1, g2, g3⟩ := hB
    exact kk he L' ow' H1 locs1 g1 (fun q h => hAA q (g2 q h)) g3 hS1
theorem y_callvV (X : CallFix p m c cc nL s args TB own) (hK : KK D cI cZ cO s) (hC : CW D cI cZ cO t0 L σ ow H) (hS : va_S A s.heap H locs) (hO : ∀ q, ow q → A q) (hN : ∀ q, s.heap.size ≤ q → A q) (hE : EE t0 mi A s s.heap) (hX : EX A s s.heap) (hY : YV y RC b n none na) (hl : Cond.methodLink own idx y ∈ TB) {C : Nat} (kc : KC C RC T ty) {O k : Nat} (hOO : 100 * C + 99 = O) (hd : cdom σ O k) (As : List Value) (rest : List Value) (hM : YVo D cI cZ cO t0 mi l y b n fr lo mc9 ms9 (.ref (L O k) :: As) L σ ow e9 σ')
    (hst : st0 = As.reverse ++ .ref (L O k) :: rest) (hls : ls.size = nL) (hn : As.length = na) (hrm : (rest.map fun v => v.category).sum ≤ 8) (hR : fr + 1 ≤ R.frames ∧ 8 + (n + 11) + lo ≤ R.locals) (hc : cells + mc9 ≤ R.cells ∧ slots + ms9 ≤ R.slots) (d : decode cc pc = .ok (.invokevirtual idx, 3))
    (ke : ¬ e9 = 0 → ∀ (L' : Lay) (ow' : Nat → Prop) (H1 : Heap) (locs1 : List Loc) (q : Addr) (ce : Cell), (∀ F k, cdom σ F k → F ≠ 1001 → L' F k = L F k) → (∀ q, ow' q → A q) → CW D cI cZ cO t0 L' σ' ow' H1 → va_S A s.heap H1 locs1 → H1[q]? = some ce → ce.vm = .none → s.vm.findClass (XTc e9) = some ce.cls → vx_W p l e R s m args below meth c H1 locs1 (cells + mc9) (slots + ms9) Q (F0 m pc ls rest) q)
    (kk : e9 = 0 → ∀ (L' : Lay) (ow' : Nat → Prop) (H1 : Heap) (locs1 : List Loc), (∀ F k, cdom σ F k → F ≠ 1001 → L' F k = L F k) → (∀ q, ow' q → A q) → CW D cI cZ cO t0 L' σ' ow' H1 → va_S A s.heap H1 locs1 → W p l e R s m args below meth c H1 locs1 (cells + mc9) (slots + ms9) Q (F0 m (pc + 3) ls rest)) : W p l e R s m args below meth c H locs cells slots Q (F0 m pc ls st0) := by
  subst hst
  have hAA : ∀ q, AA ow H.size q → A q := fun q h => h.elim (hO q) (fun z => hN q (Nat.le_trans hS.1 z))
  refine vx_callv (vx_runV (As := As) (rest := rest) X (hM H.size) (yv_cw X.2.2.2.2 hY hl rfl rfl hR) ⟨yp_blind, pw_recv hK hC.1 kc hOO hd, yp_pre hK hC ((hE.at hS).narrow hAA) ((hX.at hS).narrow hAA) rfl⟩ rfl hn hls rfl (lv_room hrm) d hc) hS (fun q _ h => hAA q h) (fun q h => hAA q h) (fun q _ h => hAA q h) ?_ ?_
  · intro E ce q9 u t H1 locs1 ht _ _ hB _ _ hS1 h1 h2 h3
    rw [ht] at hB
    obtain ⟨⟨hne, rfl⟩, L', ow', g1, g2, g3⟩ := hB
    exact ke hne L' ow' H1 locs1 q9 ce g1 (fun q h => hAA q (g2 q h)) g3 hS1 h1 h2 h3
  · intro u t H1 locs1 ht _ he hB _ _ hS1
    rw [ht] at hB
    obtain ⟨L', ow', g1, g2, g3⟩ := hB
    exact kk he L' ow' H1 locs1 g1 (fun q h => hAA q (g2 q h)) g3 hS1
end
end YRs
/-- a frozen contract, as one of the class -/
theorem yi_of_zi {D : va_G} {cI cZ cO : ClassId} {t0 mi : Nat} {l : Launch} {y : MethodName} {b : ByteArray} {n : Nat} {ret : Option FieldType} {fr lo mc ms : Nat} {av : List Value} {L : Lay} {σ : St} {ow : Nat → Prop} {e9 : Nat} {r : Int32} {σ' : St} (hM : ZI D cI cZ cO (cdom σ) l y b n ret fr lo mc ms av L σ ow e9 r σ') (hN : σ'.1 1002 = σ.1 1002 ∧ σ'.1 1003 = σ.1 1003) : YI D cI cZ cO t0 mi l y b n ret fr lo mc ms av L σ ow e9 r σ' := fun sz => by
  intro p e a1 a2 a3 s m args below hf happ hP hq
  obtain ⟨hav, hsz, hK, hC, hE, hX⟩ := hP
  obtain ⟨k, o, h1, h2, h3, hQ⟩ := hM sz p e a1 a2 a3 s m args below hf happ ⟨hav, hsz, hK, hC.1, hX⟩ hq
  refine ⟨k, o, h1, h2, h3, ?_⟩
  rcases hQ with ⟨⟨⟨x, u, ho, hp, hb⟩, hF⟩, hL⟩ | ⟨q, ho, E, ce, L9, ⟨u, hu, ⟨hee, hb⟩, hF⟩, hr⟩
  · exact Or.inl ⟨⟨⟨x, u, ho, hp, xb_rf hC hb hN⟩, hF⟩, hL⟩
  · exact Or.inr ⟨q, ho, E, ce, L9, ⟨u, hu, ⟨hee, xb_rf hC hb hN⟩, hF⟩, hr⟩
theorem e1_n {P : Prop} [Decidable P] (h : ¬ (if P then 0 else 1) = 0) : ¬ P := fun z => h (if_pos z)
theorem e1_p {P : Prop} [Decidable P] (h : (if P then 0 else 1) = 0) : P := Classical.byContradiction (fun z => absurd ((if_neg z).symm.trans h) (by decide))
section ZPs
variable {D : va_G} {cI cZ cO : ClassId} {dom : Nat → Nat → Prop} {L : Lay} {σ σ' : St} {ow : Nat → Prop}
variable {p : Program} {l : Launch} {e : Env} {R : Room} {s : State} {m : MethodId} {args : Array Value} {below : List Frame} {meth : Method} {c : Code} {H H0 : Heap} {locs : List Loc} {cells slots : Nat} {Q : State → Prop}
variable {cc : ByteArray} {pc nL : Nat} {ls : Array Slot} {rest st0 : List Value} {own : String} {A : Nat → Prop}
variable {y : MethodName} {RC : String} {b : ByteArray} {n : Nat} {ret : Option FieldType} {na idx fr lo mc9 ms9 : Nat} {r : Int32} {rq : Option Nat} {T : u_T} {ty : Nat → FieldType}
theorem z_calliP {P : Prop} [Decidable P] (X : CallFix p m c cc nL s args TB own) (hK : KK D cI cZ cO s) (hG : PW D cI cZ cO dom L σ ow H) (hS : va_S A s.heap H locs) (hA : ∀ q, AA ow s.heap.size q → A q) (hX : EX A s s.heap) (hY : YV y RC b n ret na) (hl : Cond.methodLink own idx y ∈ TB) {C : Nat} (kc : KC C RC T ty) {O k : Nat} (hOO : 100 * C + 99 = O) (hd : dom O k) (As : List Value) (rest : List Value) (hM : ZI D cI cZ cO dom l y b n ret fr lo mc9 ms9 (.ref (L O k) :: As) L σ ow (if P then 0 else 1) r σ')
    (hst : st0 = As.reverse ++ .ref (L O k) :: rest) (hls : ls.size = nL) (hn : As.length = na) (hrm : (rest.map fun v => v.category).sum ≤ 8) (hR : fr + 1 ≤ R.frames ∧ 8 + (n + 11) + lo ≤ R.locals) (hc : cells + mc9 ≤ R.cells ∧ slots + ms9 ≤ R.slots) (d : decode cc pc = .ok (.invokevirtual idx, 3))
    (ke : ¬ P → ∀ (H1 : Heap) (locs1 : List Loc) (q : Addr) (ce : Cell), PW D cI cZ cO dom L σ' ow H1 → va_S A s.heap H1 locs1 → H1[q]? = some ce → ce.vm = .none → s.vm.findClass (XTc 1) = some ce.cls → vx_W p l e R s m args below meth c H1 locs1 (cells + mc9) (slots + ms9) Q (F0 m pc ls rest) q)
    (kk : P → ∀ (H1 : Heap) (locs1 : List Loc), PW D cI cZ cO dom L σ' ow H1 → va_S A s.heap H1 locs1 → W p l e R s m args below meth c H1 locs1 (cells + mc9) (slots + ms9) Q (F0 m (pc + 3) ls (.int r :: rest))) : W p l e R s m args below meth c H locs cells slots Q (F0 m pc ls st0) :=
  z_calliV X hK hG hS hA hX hY hl kc hOO hd As rest hM hst hls hn hrm hR hc d (fun he H1 locs1 q ce g1 g2 g3 g4 g5 => ke (e1_n he) H1 locs1 q ce g1 g2 g3 g4 (by rw [if_neg (e1_n he)] at g5; exact g5)) (fun he => kk (e1_p he))
theorem z_callqP {P : Prop} [Decidable P] (X : CallFix p m c cc nL s args TB own) (hK : KK D cI cZ cO s) (hG : PW D cI cZ cO dom L σ ow H) (hS : va_S A s.heap H locs) (hA : ∀ q, AA ow s.heap.size q → A q) (hX : EX A s s.heap) (hY : YV y RC b n ret na) (hl : Cond.methodLink own idx y ∈ TB) {C : Nat} (kc : KC C RC T ty) {O k : Nat} (hOO : 100 * C + 99 = O) (hd : dom O k) (As : List Value) (rest : List Value) (hM : ZR D cI cZ cO dom l y b n ret fr lo mc9 ms9 (.ref (L O k) :: As) L σ ow (if P then 0 else 1) rq σ')
    (hst : st0 = As.reverse ++ .ref (L O k) :: rest) (hls : ls.size = nL) (hn : As.length = na) (hrm : (rest.map fun v => v.category).sum ≤ 8) (hR : fr + 1 ≤ R.frames ∧ 8 + (n + 11) + lo ≤ R.locals) (hc : cells + mc9 ≤ R.cells ∧ slots + ms9 ≤ R.slots) (d : decode cc pc = .ok (.invokevirtual idx, 3))
    (ke : ¬ P → ∀ (H1 : Heap) (locs1 : List Loc) (q : Addr) (ce : Cell), PW D cI cZ cO dom L σ' ow H1 → va_S A s.heap H1 locs1 → H1[q]? = some ce → ce.vm = .none → s.vm.findClass (XTc 1) = some ce.cls → vx_W p l e R s m args below meth c H1 locs1 (cells + mc9) (slots + ms9) Q (F0 m pc ls rest) q)
    (kk : P → ∀ (H1 : Heap) (locs1 : List Loc), PW D cI cZ cO dom L σ' ow H1 → va_S A s.heap H1 locs1 → W p l e R s m args below meth c H1 locs1 (cells + mc9) (slots + ms9) Q (F0 m (pc + 3) ls (va_rf rq :: rest))) : W p l e R s m args below meth c H locs cells slots Q (F0 m pc ls st0) :=
  z_callqV X hK hG hS hA hX hY hl kc hOO hd As rest hM hst hls hn hrm hR hc d (fun he H1 locs1 q ce g1 g2 g3 g4 g5 => ke (e1_n he) H1 locs1 q ce g1 g2 g3 g4 (by rw [if_neg (e1_n he)] at g5; exact g5)) (fun he => kk (e1_p he))
/-- an element of a list, the region as the state σ has it -/
theorem x_get8 (X : CallFix p m c cc nL s args TB own) (hK : KK D cI cZ cO s) {σ0 : St} (hG : PW D cI cZ cO (cdom σ0) L σ ow H) (hS : va_S A H0 H locs) (hA : ∀ q, AA ow H0.size q → A q) (hI : CI σ0) {j i idx : Nat} (hj : j < 8) (h2 : σ.1 1002 j = σ0.1 1002 j) (h3 : σ.1 1003 j = σ0.1 1003 j) (hi : i < σ0.1 1002 j) {O : Nat} (hO : fel j = O) {k : Nat} (hk : σ.2.2.1 1001 j i = k) (hl : Cond.methodLink own idx yJx4a65c_get_915e3 ∈ TB) (hls : ls.size = nL) (hrm : (rest.map fun v => v.category).sum ≤ 8) (hR : 4 ≤ R.frames ∧ 121 ≤ R.locals) (hc : cells ≤ R.cells ∧ slots ≤ R.slots) (d : decode cc pc = .ok (.invokevirtual idx, 3))
    (kk : ∀ (H1 : Heap) (locs1 : List Loc), PW D cI cZ cO (cdom σ0) L σ ow H1 → va_S A H0 H1 locs1 → W p l e R s m args below meth c H1 locs1 cells slots Q (F0 m (pc + 3) ls (.ref (L O k) :: rest))) : W p l e R s m args below meth c H locs cells slots Q (F0 m pc ls (.int (nI i) :: .ref (L 1099 j) :: rest)) := by
  subst hO hk
  obtain ⟨q1, q2, q3⟩ := hI.1 j hj
  have hd1 : cdom σ0 1001 j := (cd_row hj).mpr (by omega)
  exact rr_callVg X hK hG hS hA yvJx4a65c_get_915e3 hl kJx4a65c rfl (cd_list hj) [.int (nI i)] rest (c_Jx4a65c_get_915e3 l L σ ow j i (cd_list hj) hd1 (by rw [h2]; exact hi) (by rw [h2, h3]; exact q1) (by rw [h3]; omega)) rfl hls rfl hrm hR hc d kk
end ZPs
