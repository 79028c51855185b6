/-! THE CLASS'S REGION AND WORLD -/
/-- the list that holds the objects of a class; the list that numbers a list's elements -/
def cj (C : Nat) : Nat := match C with
  | 0 => 4 | 1 => 3 | 2 => 1 | 3 => 5 | 4 => 6 | _ => 0
def lj (j : Nat) : Nat := match j with
  | 2 => 1 | 7 => 6 | j => j
def isL (F : Nat) : Prop := F % 100 = 99 ∨ (2 ≤ fty F ∧ fty F ≤ 4)
def cdom (σ : St) (F k : Nat) : Prop := (k = 0 ∧ F ∈ [899, 806, 807, 808, 799, 702, 703, 699, 600, 601]) ∨ (F = 1099 ∧ k < 8) ∨ (F = 1001 ∧ k < 8 ∧ ¬ σ.1 1003 k = 0) ∨ (F < 600 ∧ isL F ∧ k < σ.1 1002 (cj (F / 100)))
theorem cd_fix {σ : St} {F : Nat} (h : F ∈ [899, 806, 807, 808, 799, 702, 703, 699, 600, 601]) : cdom σ F 0 := Or.inl ⟨rfl, h⟩
theorem cd_list {σ : St} {j : Nat} (h : j < 8) : cdom σ 1099 j := Or.inr (Or.inl ⟨rfl, h⟩)
theorem cd_obj {σ : St} {F k : Nat} (h1 : F < 600) (h2 : isL F) (h3 : k < σ.1 1002 (cj (F / 100))) : cdom σ F k := Or.inr (Or.inr (Or.inr ⟨h1, h2, h3⟩))
theorem cd_row {σ : St} {j : Nat} (h : j < 8) : cdom σ 1001 j ↔ ¬ σ.1 1003 j = 0 := by
  constructor
  · intro z
    rcases z with ⟨-, z⟩ | ⟨z, -⟩ | ⟨-, -, z⟩ | ⟨z, -⟩
    · exact absurd z (by decide)
    · exact absurd z (by decide)
    · exact z
    · exact absurd z (by decide)
  · exact fun z => Or.inr (Or.inr (Or.inl ⟨rfl, h, z⟩))
theorem cdom_eq {σ σ' : St} (h2 : ∀ j, σ'.1 1002 j = σ.1 1002 j) (h3 : ∀ j, σ'.1 1003 j = σ.1 1003 j) : cdom σ' = cdom σ := funext fun F => funext fun k => by
  unfold cdom
  rw [h2, h3]
def CI (σ : St) : Prop := (∀ j, j < 8 → σ.1 1002 j ≤ σ.1 1003 j ∧ σ.1 1003 j < 50000 ∧ (σ.1 1003 j = 0 ∨ 10 ≤ σ.1 1003 j)) ∧ ∀ j, j < 8 → ∀ i, i < σ.1 1002 j → σ.2.2.1 1001 j i < σ.1 1002 (lj j)
section CWs
variable {D : va_G} {cI cZ cO : ClassId} {L L' : Lay} {σ σ' : St} {ow : Nat → Prop} {H : Heap} {t0 mi : Nat}
def CW (D : va_G) (cI cZ cO : ClassId) (t0 : Nat) (L : Lay) (σ : St) (ow : Nat → Prop) (H : Heap) : Prop := PW D cI cZ cO (cdom σ) L σ ow H ∧ ∀ j, j < 8 → σ.1 1003 j = 0 → L 1001 j = t0
theorem lok_of (hC : CW D cI cZ cO t0 L σ ow H) (hI : CI σ) {j : Nat} (hj : j < 8) : LOK (cdom σ) L σ t0 j := by
  obtain ⟨h1, h2, h3⟩ := hI.1 j hj
  refine ⟨cd_list hj, h1, h2, ?_⟩
  by_cases c : σ.1 1003 j = 0
  · exact Or.inl ⟨c, hC.2 j hj c, fun z => (cd_row hj).mp z c⟩
  · exact Or.inr ⟨h3.resolve_left c, (cd_row hj).mpr c⟩
theorem fel_lj (j : Nat) (hj : j < 8) : fel j < 600 ∧ isL (fel j) ∧ cj (fel j / 100) = lj j := by
  rcases (by omega : j = 0 ∨ j = 1 ∨ j = 2 ∨ j = 3 ∨ j = 4 ∨ j = 5 ∨ j = 6 ∨ j = 7) with rfl | rfl | rfl | rfl | rfl | rfl | rfl | rfl <;> exact ⟨by decide, Or.inl (by decide), rfl⟩
theorem hel_of (hI : CI σ) {j : Nat} (hj : j < 8) : ∀ i, i < σ.1 1002 j → cdom σ (fel j) (σ.2.2.1 1001 j i) := fun i hi => by
  obtain ⟨h1, h2, h3⟩ := fel_lj j hj
  exact cd_obj h1 h2 (by rw [h3]; exact hI.2 j hj i hi)
/-- what a method of the class leaves: perhaps another layout of the lists' rows -/
def XB (D : va_G) (cI cZ cO : ClassId) (t0 : Nat) (L : Lay) (σ : St) (ow : Nat → Prop) (sz : Nat) (σ' : St) (H : Heap) : Prop := ∃ (L' : Lay) (ow' : Nat → Prop), (∀ F k, cdom σ F k → F ≠ 1001 → L' F k = L F k) ∧ (∀ q, ow' q → AA ow sz q) ∧ CW D cI cZ cO t0 L' σ' ow' H
def XPc (D : va_G) (cI cZ cO : ClassId) (t0 mi : Nat) (L : Lay) (σ : St) (ow : Nat → Prop) (sz : Nat) (av : List Value) : Array Value → State → Prop := va_Pc av (fun U => U.heap.size = sz ∧ KK D cI cZ cO U ∧ CW D cI cZ cO t0 L σ ow U.heap ∧ EE t0 mi (AA ow sz) U U.heap)
theorem xpc_blind {sz : Nat} {av : List Value} : FrameBlind (XPc D cI cZ cO t0 mi L σ ow sz av) := fun a U g mk q => by
  obtain ⟨q0, q1, q2, q3, q4⟩ := q
  exact ⟨q0, q1, va_K.moved (u := U) (U := U.calling g mk a) (Vm.Alike.refl U.vm) q2, q3, q4.moved (U := U.calling g mk a) (Vm.Alike.refl U.vm)⟩
def XQi (D : va_G) (cI cZ cO : ClassId) (t0 : Nat) (L : Lay) (σ : St) (ow : Nat → Prop) (sz : Nat) (r : Int32) (σ' : St) : Array Value → State → Outcome → State → Prop := va_Qi (fun x (_ : Unit) => x = r) (fun _ t => XB D cI cZ cO t0 L σ ow sz σ' t.heap) (AA ow sz)
def XQv (D : va_G) (cI cZ cO : ClassId) (t0 : Nat) (L : Lay) (σ : St) (ow : Nat → Prop) (sz : Nat) (σ' : St) : Array Value → State → Outcome → State → Prop := va_Qv (fun (_ : Unit) => True) (fun _ t => XB D cI cZ cO t0 L σ ow sz σ' t.heap) (AA ow sz)
def XI (D : va_G) (cI cZ cO : ClassId) (t0 mi : Nat) (l : Launch) (y : MethodName) (b : ByteArray) (n : Nat) (ret : Option FieldType) (fr lo mc ms : Nat) (av : List Value) (L : Lay) (σ : St) (ow : Nat → Prop) (r : Int32) (σ' : St) : Prop :=
  ∀ sz : Nat, Met l y (wM y b n ret) { frames := fr, cells := mc, slots := ms, locals := lo } (XPc D cI cZ cO t0 mi L σ ow sz av) (XQi D cI cZ cO t0 L σ ow sz r σ') mc ms (AA ow sz)
def XV (D : va_G) (cI cZ cO : ClassId) (t0 mi : Nat) (l : Launch) (y : MethodName) (b : ByteArray) (n : Nat) (fr lo mc ms : Nat) (av : List Value) (L : Lay) (σ : St) (ow : Nat → Prop) (σ' : St) : Prop :=
  ∀ sz : Nat, Met l y (wM y b n none) { frames := fr, cells := mc, slots := ms, locals := lo } (XPc D cI cZ cO t0 mi L σ ow sz av) (XQv D cI cZ cO t0 L σ ow sz σ') mc ms (AA ow sz)
theorem x_of {l : Launch} {y : MethodName} {b : ByteArray} {n : Nat} {ret : Option FieldType} {rm : Room} {mc ms : Nat} {av : List Value} {Qc : Nat → Array Value → State → Outcome → State → Prop} (hy : plainName y.cls = true) (hn : (lg_sl av).length ≤ n)
    (body : ∀ (p : Program) (e : Env) (s : State) (m : MethodId) (args : Array Value) (below : List Frame) (meth : Method) (c : Code) (ls : Array Slot), CallFix p m c b n s args TB y.cls → KK D cI cZ cO s → CW D cI cZ cO t0 L σ ow s.heap → EE t0 mi (AA ow s.heap.size) s s.heap → meth.sig.returnType = ret → meth.locks = false → lv_has ls n (lv_args 0 av) →
      W p l e rm s m args below meth c s.heap [] 0 0 (MQ below (Qc s.heap.size) args s mc ms (AA ow s.heap.size)) (F0 m 0 ls [])) : ∀ sz : Nat, Met l y (wM y b n ret) rm (XPc D cI cZ cO t0 mi L σ ow sz av) (Qc sz) mc ms (AA ow sz) := by
  intro sz
  refine Met.ofW (cc := b) (maxL := n) (ret := ret) hy rfl ?_
  intro p e s m args below meth c s₁ B hml hv
  obtain ⟨hav, hsz, hK, hC, hE⟩ := hv
  subst hsz
  rw [lg_entry_eq]
  have hl := lv_entry av hn
  rw [hav]
  rw [hav] at B
  exact body p e s m av.toArray below meth c _ ⟨B.exec, B.bytes, hml, findClass_of_methodNamed B.named, wm_hts (atoms_spec (ws := wM y b n ret) B.pre)⟩ hK hC hE B.returns B.notSynchronized hl
variable {p : Program} {l : Launch} {e : Env} {R : Room} {s : State} {m : MethodId} {args : Array Value} {below : List Frame} {meth : Method} {c : Code} {H0 : Heap} {locs : List Loc} {cells slots : Nat} {Q : State → Prop}
variable {cc : ByteArray} {pc nL : Nat} {ls : Array Slot} {rest st0 : List Value} {own : String} {A : Nat → Prop}
theorem xi_ret {mc ms : Nat} (hx : p.tables.exec = Jvm.exec) (hb : c.code = cc) {ty : FieldType} (hr : meth.sig.returnType = some ty) (hlocks : meth.locks = false) (hB : XB D cI cZ cO t0 L σ ow s.heap.size σ' H) (hS : va_S (AA ow s.heap.size) s.heap H locs) {v r : Int32} (hv : v = r) (hn : narrow ty (.int v) = .int v) (h1 : cells ≤ mc) (h2 : slots ≤ ms) (d : decode cc pc = .ok (.ireturn, 1)) :
    W p l e R s m args below meth c H locs cells slots (MQ below (XQi D cI cZ cO t0 L σ ow s.heap.size r σ') args s mc ms (AA ow s.heap.size)) (F0 m pc ls [.int v]) :=
  W.widen h1 h2 (W.zret hx hb hr hn (fun t ht hW => ⟨⟨v, (), rfl, hv, by show XB D cI cZ cO t0 L σ ow s.heap.size σ' t.heap; rw [ht]; exact hB⟩, hS.F ht⟩) hS.2.2 d hlocks)
theorem xv_ret {mc ms : Nat} (hx : p.tables.exec = Jvm.exec) (hb : c.code = cc) (hr : meth.sig.returnType = none) (hlocks : meth.locks = false) (hB : XB D cI cZ cO t0 L σ ow s.heap.size σ' H) (hS : va_S (AA ow s.heap.size) s.heap H locs) (h1 : cells ≤ mc) (h2 : slots ≤ ms) (d : decode cc pc = .ok (.return_, 1)) :
    W p l e R s m args below meth c H locs cells slots (MQ below (XQv D cI cZ cO t0 L σ ow s.heap.size σ') args s mc ms (AA ow s.heap.size)) (F0 m pc ls []) :=
  W.widen h1 h2 (W.vret hx hb hr (fun t ht hW => ⟨⟨(), rfl, trivial, by show XB D cI cZ cO t0 L σ ow s.heap.size σ' t.heap; rw [ht]; exact hB⟩, hS.F ht⟩) hS.2.2 d hlocks)
theorem xpc_pre {sz : Nat} {av : List Value} (hK : KK D cI cZ cO s) (hC : CW D cI cZ cO t0 L σ ow H) (hE : EE t0 mi (AA ow sz) s H) (hsz : H.size = sz) : ∀ U : State, U.heap = H → s.WarmedH U.vm → XPc D cI cZ cO t0 mi L σ ow sz av av.toArray U := fun U hU hW => ⟨rfl, by rw [hU]; exact hsz, va_K.moved hW.alike hK, by rw [hU]; exact hC, by rw [hU]; exact hE.moved hW.alike⟩
section
variable {y : MethodName} {RC : String} {b : ByteArray} {n : Nat} {ret : Option FieldType} {na idx fr lo mc ms : Nat} {r : Int32} {T : u_T} {ty : Nat → FieldType}
theorem xi_callV (X : CallFix p m c cc nL s args TB own) (hK : KK D cI cZ cO s) (hC : CW D cI cZ cO t0 L σ ow H) (hS : va_S A s.heap H locs) (hO : ∀ q, ow q → A q) (hN : ∀ q, s.heap.size ≤ q → A q) (hE : EE t0 mi A s s.heap) (hY : YV y RC b n ret na) (hl : Cond.methodLink own idx y ∈ TB) {C : Nat} (kc : KC C RC T ty) {O k : Nat} (hOO : 100 * C + 99 = O) (hd : cdom σ O k) (As : List Value) (rest : List Value) (hM : XI D cI cZ cO t0 mi l y b n ret fr lo mc ms (.ref (L O k) :: As) L σ ow r σ')
    (hst : st0 = As.reverse ++ .ref (L O k) :: rest) (hls : ls.size = nL) (hn : As.length = na) (hrm : (rest.map fun v => v.category).sum ≤ 8) (hR : fr + 1 ≤ R.frames ∧ 8 + (n + 11) + lo ≤ R.locals) (hc : cells + mc ≤ R.cells ∧ slots + ms ≤ R.slots) (d : decode cc pc = .ok (.invokevirtual idx, 3))
    (kk : ∀ (L' : Lay) (ow' : Nat → Prop) (H1 : Heap) (locs1 : List Loc), (∀ F k, cdom σ F k → F ≠ 1001 → L' F k = L F k) → (∀ q, ow' q → A q) → CW D cI cZ cO t0 L' σ' ow' H1 → va_S A s.heap H1 locs1 → W p l e R s m args below meth c H1 locs1 (cells + mc) (slots + ms) Q (F0 m (pc + 3) ls (.int r :: rest))) : W p l e R s m args below meth c H locs cells slots Q (F0 m pc ls st0) := by
  subst hst
  have hAA : ∀ q, AA ow H.size q → A q := fun q h => h.elim (hO q) (fun z => hN q (Nat.le_trans hS.1 z))
  refine va_calli (va_runV (As := As) (rest := rest) X (hM H.size) (yv_cw X.2.2.2.2 hY hl rfl rfl hR) ⟨xpc_blind, pw_recv hK hC.1 kc hOO hd, xpc_pre hK hC ((hE.at hS).narrow hAA) rfl⟩ rfl hn hls rfl (lv_room hrm) d hc) hS (fun q _ h => hAA q h) (fun q h => hAA q h) ?_
  intro r1 u t H1 locs1 ht _ hw hB _ _ hS1
  subst hw
  rw [ht] at hB
  obtain ⟨L', ow', h1, h2, h3⟩ := hB
  exact kk L' ow' H1 locs1 h1 (fun q h => hAA q (h2 q h)) h3 hS1
theorem xv_callV (X : CallFix p m c cc nL s args TB own) (hK : KK D cI cZ cO s) (hC : CW D cI cZ cO t0 L σ ow H) (hS : va_S A s.heap H locs) (hO : ∀ q, ow q → A q) (hN : ∀ q, s.heap.size ≤ q → A q) (hE : EE t0 mi A s s.heap) (hY : YV y RC b n none na) (hl : Cond.methodLink own idx y ∈ TB) {C : Nat} (kc : KC C RC T ty) {O k : Nat} (hOO : 100 * C + 99 = O) (hd : cdom σ O k) (As : List Value) (rest : List Value) (hM : XV D cI cZ cO t0 mi l y b n fr lo mc ms (.ref (L O k) :: As) L σ ow σ')
    (hst : st0 = As.reverse ++ .ref (L O k) :: rest) (hls : ls.size = nL) (hn : As.length = na) (hrm : (rest.map fun v => v.category).sum ≤ 8) (hR : fr + 1 ≤ R.frames ∧ 8 + (n + 11) + lo ≤ R.locals) (hc : cells + mc ≤ R.cells ∧ slots + ms ≤ R.slots) (d : decode cc pc = .ok (.invokevirtual idx, 3))
    (kk : ∀ (L' : Lay) (ow' : Nat → Prop) (H1 : Heap) (locs1 : List Loc), (∀ F k, cdom σ F k → F ≠ 1001 → L' F k = L F k) → (∀ q, ow' q → A q) → CW D cI cZ cO t0 L' σ' ow' H1 → va_S A s.heap H1 locs1 → W p l e R s m args below meth c H1 locs1 (cells + mc) (slots + ms) Q (F0 m (pc + 3) ls rest)) : W p l e R s m args below meth c H locs cells slots Q (F0 m pc ls st0) := by
  subst hst
  have hAA : ∀ q, AA ow H.size q → A q := fun q h => h.elim (hO q) (fun z => hN q (Nat.le_trans hS.1 z))
  refine va_callv (va_runV (As := As) (rest := rest) X (hM H.size) (yv_cw X.2.2.2.2 hY hl rfl rfl hR) ⟨xpc_blind, pw_recv hK hC.1 kc hOO hd, xpc_pre hK hC ((hE.at hS).narrow hAA) rfl⟩ rfl hn hls rfl (lv_room hrm) d hc) hS (fun q _ h => hAA q h) (fun q h => hAA q h) ?_
  intro u t H1 locs1 ht _ _ hB _ _ hS1
  rw [ht] at hB
  obtain ⟨L', ow', h1, h2, h3⟩ := hB
  exact kk L' ow' H1 locs1 h1 (fun q h => hAA q (h2 q h)) h3 hS1
end
end CWs
