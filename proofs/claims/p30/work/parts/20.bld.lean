/-! BUILDING an object: its rows come one after the other, at the heap's end -/
def dl (l : List (Nat × Nat)) : Nat → Nat → Prop := fun F k => (F, k) ∈ l
abbrev oN (a sz : Nat) : Nat → Prop := fun q => q = a ∨ sz ≤ q
def dfs (C : Nat) : List Value := (flds C).map (fun t => if t ≤ 1 then .int 0 else .null)
section BLD
variable {D : va_G} {cI cZ cO : ClassId} {L : Lay} {σ : St} {ow A : Nat → Prop} {l9 : List (Nat × Nat)} {dom : Nat → Nat → Prop}
variable {p : Program} {l : Launch} {e : Env} {R : Room} {s : State} {m : MethodId} {args : Array Value} {below : List Frame} {meth : Method} {c : Code} {H H0 H1 : Heap} {locs : List Loc} {cells slots : Nat} {Q : State → Prop}
variable {cc : ByteArray} {pc nL : Nat} {ls : Array Slot} {rest : List Value} {own : String}
theorem PW.none : PW D cI cZ cO (dl []) L σ ow H := ⟨fun _ _ h => absurd h List.not_mem_nil, fun _ _ _ _ h => absurd h List.not_mem_nil, fun _ _ h => absurd h List.not_mem_nil⟩
theorem PW.add (h : PW D cI cZ cO (dl l9) L σ ow H) {F k : Nat} (he : va_at D vwCl (L F k, ent cI cZ cO L σ F k) H) (hn : ∀ F' k', dl l9 F' k' → L F' k' ≠ L F k) (ho : ow (L F k)) : PW D cI cZ cO (dl ((F, k) :: l9)) L σ ow H := by
  refine ⟨fun F' k' hd => ?_, fun F1 k1 F2 k2 h1 h2 e => ?_, fun F' k' hd => ?_⟩
  · rcases List.mem_cons.mp hd with z | z
    · cases z; exact he
    · exact h.1 F' k' z
  · rcases List.mem_cons.mp h1 with z1 | z1 <;> rcases List.mem_cons.mp h2 with z2 | z2
    · cases z1; cases z2; exact ⟨rfl, rfl⟩
    · cases z1; exact absurd e.symm (hn _ _ z2)
    · cases z2; exact absurd e (hn _ _ z1)
    · exact h.2.1 _ _ _ _ z1 z2 e
  · rcases List.mem_cons.mp hd with z | z
    · cases z; exact ho
    · exact h.2.2 F' k' z
theorem PW.kept2 (h : PW D cI cZ cO dom L σ ow H) (hq : ∀ F k, dom F k → H1[L F k]? = H[L F k]?) : PW D cI cZ cO dom L σ ow H1 := ⟨fun F k hF => (h.1 F k hF).kept (hq F k hF), h.2.1, h.2.2⟩
theorem PW.mono {dom' : Nat → Nat → Prop} (h : PW D cI cZ cO dom L σ ow H) (hd : ∀ F k, dom' F k → dom F k) : PW D cI cZ cO dom' L σ ow H := ⟨fun F k z => h.1 F k (hd F k z), fun F k F' k' z z' => h.2.1 F k F' k' (hd _ _ z) (hd _ _ z'), fun F k z => h.2.2 F k (hd F k z)⟩
theorem PW.ow2 {ow' : Nat → Prop} (h : PW D cI cZ cO dom L σ ow H) (ho : ∀ F k, dom F k → ow' (L F k)) : PW D cI cZ cO dom L σ ow' H := ⟨h.1, h.2.1, ho⟩
theorem ent_A0 {F k : Nat} (h1 : F % 100 ≠ 99) (h2 : F ≠ 1001) (h3 : fty F = 2) (hz : ∀ i, σ.2.2.1 F k i = 0) : ent cI cZ cO L σ F k = .inl (cI, flen F, .inl (fun _ => 0)) := by
  unfold ent
  rw [if_neg h1, if_neg h2, if_pos h3]
  have : (fun i => nI (σ.2.2.1 F k i)) = fun _ => 0 := funext fun i => by rw [hz i]; rfl
  rw [this]
theorem ent_B0 {F k : Nat} (h1 : F % 100 ≠ 99) (h2 : F ≠ 1001) (h3 : fty F = 3) (hz : ∀ i, σ.2.2.2 F k i = 0) : ent cI cZ cO L σ F k = .inl (cI, flen F, .inl (fun _ => 0)) := by
  unfold ent
  rw [if_neg h1, if_neg h2, if_neg (by rw [h3]; decide), if_neg (by rw [h3]; decide), if_neg (by rw [h3]; decide)]
  have : σ.2.2.2 F k = fun _ => 0 := funext fun i => hz i
  rw [this]
/-- an object O at its address, its fields fs; the labels of l9 stand; the heap has n cells -/
def BW (D : va_G) (cI cZ cO : ClassId) (l9 : List (Nat × Nat)) (L : Lay) (σ : St) (sz O C k : Nat) (fs : List Value) (n : Nat) (H : Heap) : Prop :=
  PW D cI cZ cO (dl l9) L σ (oN (L O k) sz) H ∧ va_at D vwCl (L O k, .inr (vix C, fs)) H ∧ (∀ F' k', dl l9 F' k' → L F' k' ≠ L O k) ∧ H.size = n ∧ sz ≤ n
theorem bw_new {sz O C k n : Nat} {fs : List Value} (X : CallFix p m c cc nL s args TB own) (hK : KK D cI cZ cO s) (hB : BW D cI cZ cO l9 L σ sz O C k fs n H) (hsz : H0.size = sz) (hS : va_S (oN (L O k) sz) H0 H locs) {F N : Nat} (hent : ent cI cZ cO L σ F k = .inl (cI, N, .inl (fun _ => 0))) (hL : L F k = n) (hN : N < 100000) (hcells : cells + 1 ≤ R.cells) (hslots : slots + N ≤ R.slots) (hdg : decode cc pc = .ok (.newarray .int, 2))
    (kk : ∀ H1 : Heap, BW D cI cZ cO ((F, k) :: l9) L σ sz O C k fs (n + 1) H1 → va_S (oN (L O k) sz) H0 H1 locs → W p l e R s m args below meth c H1 locs (cells + 1) (slots + N) Q (F0 m (pc + 2) ls (.ref (L F k) :: rest))) : W p l e R s m args below meth c H locs cells slots Q (F0 m pc ls (.int (nI N) :: rest)) := by
  obtain ⟨hG, hat, hap, hz, hle⟩ := hB
  refine va_newaK (atype := .int) X.1 X.2.1 (X.2.2.2.2 _ tw_1_116) rfl hdg rfl (by rw [show ¬ (nI N < 0) ↔ True from ⟨fun _ => trivial, fun _ => nI_pos (by omega)⟩]; trivial) (nI_clamp (by omega)) (by show N * 4 ≤ _; omega) hcells hslots hz (fun H1 cA e1 z1 o1 hAr hNm => ?_)
  have hc : cA = cI := Option.some.inj (hNm.symm.trans (hK.2 0 (cI, .int) rfl).2)
  subst hc
  have hlt : ∀ F' k', dl l9 F' k' → L F' k' < n := fun F' k' hd => by rw [← hz]; exact (hG.1 F' k' hd).lt
  have hao : L O k < n := by rw [← hz]; exact hat.lt
  have hG1 := hG.kept2 (H1 := H1) (fun F' k' hd => o1 _ (hlt F' k' hd))
  rw [← hL]
  refine kk H1 ⟨hG1.add (by rw [hent]; show H1[L F k]? = some (vp_cell _ _); rw [hL]; exact e1) (fun F' k' hd => by rw [hL]; exact Nat.ne_of_lt (hlt F' k' hd)) (Or.inr (by rw [hL]; exact hle)), hat.kept (o1 _ hao), fun F' k' hd => ?_, z1, by omega⟩ ⟨by rw [z1]; have := hS.1; omega, fun q h1 h2 => (o1 q (by have := hS.1; omega)).trans (hS.2.1 q h1 h2), hS.2.2⟩
  rcases List.mem_cons.mp hd with z | z
  · cases z; rw [hL]; exact Nat.ne_of_gt hao
  · exact hap F' k' z
theorem pw_putF (X : CallFix p m c cc nL s args TB own) (hK : KK D cI cZ cO s) {C : Nat} {RC : String} {T : u_T} {ty : Nat → FieldType} (kc : KC C RC T ty) {a : Nat} {fs : List Value} (hat : va_at D vwCl (a, .inr (vix C, fs)) H) (hS : va_S A H0 H locs) (hA : A a) (f : Nat) (hf : f < (flds C).length) {index : Nat} {ref : String}
    (hlink : Cond.fieldLink own index ref (T f).2.1 (T f).2.2.1 ∈ TB) (hsame : ∀ x, s.fieldFound? (T f).1 (T f).2.1 (T f).2.2.1 = some x → s.fieldFound? ref (T f).2.1 (T f).2.2.1 = some x) (hfin : (T f).2.2.2 = true) (hin2 : meth.name = "<init>") (hdecl : (T f).1 = own) {tv : FieldType} {v : Value} (hdsc : parseFieldDescriptor (T f).2.2.1 = some tv) (hn : narrow tv v = v) (hfit : fits tv v = true) (hl : f < fs.length) (hdg : decode cc pc = .ok (.putfield index, 3))
    (kk : ∀ (H1 : Heap) (locs1 : List Loc), va_at D vwCl (a, .inr (vix C, fs.set f v)) H1 → H1.size = H.size → (∀ q, q ≠ a → H1[q]? = H[q]?) → va_S A H0 H1 locs1 → W p l e R s m args below meth c H1 locs1 cells slots Q (F0 m (pc + 3) ls rest)) : W p l e R s m args below meth c H locs cells slots Q (F0 m pc ls (v :: .ref a :: rest)) := by
  have hc := kc.1
  have hap := va_apart (own := own) X.2.2.2.2 kc.2.1 ty kc.2.2.1 kc.2.2.2 hK hc
  obtain ⟨r, h1, cell, q1, q2, q3, q4⟩ := hat
  have hr : r = (RC, T, (flds C).length) := Option.some.inj (h1.symm.trans hc)
  subst hr
  obtain ⟨hSl, hfc, kC, hkC, hkind⟩ := hK.1 (vix C) _ hc
  obtain ⟨cf, kf, fi, fd, hi, hsl⟩ := hSl f hf
  have hlay := X.2.2.2.2 _ (kc.2.1 _ (u_in_lay hf))
  unfold u_lay at hlay
  rw [if_pos hfin] at hlay
  have hst := (u_facts hfc hkC (u_lays X.2.2.2.2 kc.2.1 hf) hi).1
  have hcf : m.cls = cf := by
    obtain ⟨_, _, c', _, _, _, -, -, hf', -, -, -, hown2, -⟩ := Cond.laysFinal_spec hlay
    have e1 : c' = cf := by have := hi.symm.trans hf'; simp at this; exact this.1.symm
    rw [hdecl] at hown2
    rw [← e1]; exact Option.some.inj (X.2.2.2.1.symm.trans hown2)
  have h6 := u_fits hfc hkC hkind (Or.inr hlay) hi hdsc hn hfit
  refine W.putFinK X.1 X.2.1 X.2.2.2.1 (X.2.2.2.2 _ hlink) (hsame _ hi) hst hcf hin2 (by rw [q2]; exact h6) q1 q3 (by rw [hsl]; exact k2_hasslot (q4 f hf)) rfl rfl hdg fun H' e1 e2 e3 => ?_
  rw [hsl] at e1 ⊢
  exact kk H' _ ⟨_, hc, t_OB.to (V := updV (vp_V fs) f v) ⟨_, e1, q2, q3, t_set q4 hap hf v⟩ (fun j _ => vp_updV_set hl v j)⟩ e2 e3 (hS.put e2 e3 hA)
theorem bw_put {sz O C k n : Nat} {fs : List Value} {RC : String} {T : u_T} {ty : Nat → FieldType} (kc : KC C RC T ty) (X : CallFix p m c cc nL s args TB own) (hK : KK D cI cZ cO s) (hB : BW D cI cZ cO l9 L σ sz O C k fs n H) (hS : va_S (oN (L O k) sz) H0 H locs) (f : Nat) (hf : f < (flds C).length) {index : Nat} {ref : String}
    (hlink : Cond.fieldLink own index ref (T f).2.1 (T f).2.2.1 ∈ TB) (hsame : ∀ x, s.fieldFound? (T f).1 (T f).2.1 (T f).2.2.1 = some x → s.fieldFound? ref (T f).2.1 (T f).2.2.1 = some x) (hfin : (T f).2.2.2 = false ∨ ((T f).2.2.2 = true ∧ meth.name = "<init>" ∧ (T f).1 = own)) {tv : FieldType} {v : Value} (hdsc : parseFieldDescriptor (T f).2.2.1 = some tv) (hn : narrow tv v = v) (hfit : fits tv v = true) (hl : f < fs.length) (hdg : decode cc pc = .ok (.putfield index, 3))
    (kk : ∀ (H1 : Heap) (locs1 : List Loc), BW D cI cZ cO l9 L σ sz O C k (fs.set f v) n H1 → va_S (oN (L O k) sz) H0 H1 locs1 → W p l e R s m args below meth c H1 locs1 cells slots Q (F0 m (pc + 3) ls rest)) : W p l e R s m args below meth c H locs cells slots Q (F0 m pc ls (v :: .ref (L O k) :: rest)) := by
  obtain ⟨hG, hat, hap, hz, hle⟩ := hB
  have key : ∀ (H1 : Heap) (locs1 : List Loc), va_at D vwCl (L O k, .inr (vix C, fs.set f v)) H1 → H1.size = H.size → (∀ q, q ≠ L O k → H1[q]? = H[q]?) → va_S (oN (L O k) sz) H0 H1 locs1 → W p l e R s m args below meth c H1 locs1 cells slots Q (F0 m (pc + 3) ls rest) := fun H1 locs1 h1 h2 h3 h4 => kk H1 locs1 ⟨hG.kept2 (fun F' k' hd => h3 _ (hap F' k' hd)), h1, hap, h2.trans hz, hle⟩ h4
  rcases hfin with hf0 | ⟨hf1, hf2, hf3⟩
  · exact pw_putR X hK kc hat hS (Or.inl rfl) f hf hlink hsame hf0 hdsc hn hfit hl hdg key
  · exact pw_putF X hK kc hat hS (Or.inl rfl) f hf hlink hsame hf1 hf2 hf3 hdsc hn hfit hl hdg key
theorem bw_done {sz O C k n : Nat} {fs : List Value} (hO : 100 * C + 99 = O) (hB : BW D cI cZ cO l9 L σ sz O C k fs n H) (hfs : fs = ofl L σ C k) : PW D cI cZ cO (dl ((O, k) :: l9)) L σ (oN (L O k) sz) H := by
  obtain ⟨hG, hat, hap, hz, hle⟩ := hB
  subst hO hfs
  exact hG.add (by rw [ent_o]; exact hat) hap (Or.inl rfl)
/-! contracts of constructors -/
def CQ (D : va_G) (cI cZ cO : ClassId) (dom : Nat → Nat → Prop) (L : Lay) (σ : St) (a sz : Nat) (Pz : Nat → Prop) : Array Value → State → Outcome → State → Prop := va_Qv (fun (_ : Unit) => True) (fun _ t => PW D cI cZ cO dom L σ (oN a sz) t.heap ∧ Pz t.heap.size) (oN a sz)
def CP (D : va_G) (cI cZ cO : ClassId) (a C sz : Nat) (av : List Value) : Array Value → State → Prop := va_Pc av (fun U => U.heap.size = sz ∧ KK D cI cZ cO U ∧ va_at D vwCl (a, .inr (vix C, dfs C)) U.heap)
theorem cp_blind {a C sz : Nat} {av : List Value} : FrameBlind (CP D cI cZ cO a C sz av) := fun a9 U g mk q => by
  obtain ⟨q0, q1, q2, q3⟩ := q
  exact ⟨q0, q1, va_K.moved (u := U) (U := U.calling g mk a9) (Vm.Alike.refl U.vm) q2, q3⟩
theorem cc_of {l : Launch} {y : MethodName} {b : ByteArray} {n fr lo mc ms a C sz : Nat} {Pz : Nat → Prop} {av : List Value} (hy : plainName y.cls = true) (hn : (lg_sl av).length ≤ n)
    (body : ∀ (p : Program) (e : Env) (s : State) (m : MethodId) (below : List Frame) (meth : Method) (c : Code) (ls : Array Slot), CallFix p m c b n s av.toArray TB y.cls → KK D cI cZ cO s → s.heap.size = sz → va_at D vwCl (a, .inr (vix C, dfs C)) s.heap → meth.sig.returnType = none → meth.locks = false → meth.name = y.name → lv_has ls n (lv_args 0 av) →
      W p l e { frames := fr, cells := mc, slots := ms, locals := lo } s m av.toArray below meth c s.heap [] 0 0 (MQ below (CQ D cI cZ cO dom L σ a sz Pz) av.toArray s mc ms (oN a sz)) (F0 m 0 ls [])) : Met l y (wM y b n none) { frames := fr, cells := mc, slots := ms, locals := lo } (CP D cI cZ cO a C sz av) (CQ D cI cZ cO dom L σ a sz Pz) mc ms (oN a sz) := by
  refine Met.ofW (cc := b) (maxL := n) (ret := none) hy rfl ?_
  intro p e s m args below meth c s₁ B hml hv
  obtain ⟨rfl, hsz, hK, hat⟩ := hv
  rw [lg_entry_eq]
  have hl := lv_entry av hn
  exact body p e s m below meth c _ ⟨B.exec, B.bytes, hml, findClass_of_methodNamed B.named, wm_hts (atoms_spec (ws := wM y b n none) B.pre)⟩ hK hsz hat B.returns B.notSynchronized (name_of_methodNamed B.named B.method).1 hl
theorem cc_ret {a sz : Nat} {Pz : Nat → Prop} (hx : p.tables.exec = Jvm.exec) (hb : c.code = cc) (hr : meth.sig.returnType = none) (hlocks : meth.locks = false) (hG : PW D cI cZ cO dom L σ (oN a sz) H) (hn : Pz H.size) (hS : va_S (oN a sz) s.heap H locs) (d : decode cc pc = .ok (.return_, 1)) :
    W p l e R s m args below meth c H locs cells slots (MQ below (CQ D cI cZ cO dom L σ a sz Pz) args s cells slots (oN a sz)) (F0 m pc ls []) :=
  W.vret hx hb hr (fun t ht hW => ⟨⟨(), rfl, trivial, by rw [ht]; exact hG, by rw [ht]; exact hn⟩, hS.F ht⟩) hS.2.2 d hlocks
/-! calls, whatever the frame speaks of -/
variable {y : MethodName} {RC : String} {b : ByteArray} {n : Nat} {ret : Option FieldType} {na idx fr lo : Nat} {r : Int32} {T : u_T} {ty : Nat → FieldType} {σ' : St} {st0 : List Value}
theorem rm_callVg (X : CallFix p m c cc nL s args TB own) (hK : KK D cI cZ cO s) (hG : PW D cI cZ cO dom L σ ow H) (hS : va_S A H0 H locs) (hA : ∀ q, AA ow H0.size q → A q) (hY : YV y RC b n ret na) (hl : Cond.methodLink own idx y ∈ TB) {C : Nat} (kc : KC C RC T ty) {O k : Nat} (hO : 100 * C + 99 = O) (hd : dom O k) (As : List Value) (rest : List Value) (hM : RM D cI cZ cO dom l y b n ret fr lo (.ref (L O k) :: As) L σ ow r σ')
    (hst : st0 = As.reverse ++ .ref (L O k) :: rest) (hls : ls.size = nL) (hn : As.length = na) (hrm : (rest.map fun v => v.category).sum ≤ 8) (hR : fr + 1 ≤ R.frames ∧ 8 + (n + 11) + lo ≤ R.locals) (hc : cells ≤ R.cells ∧ slots ≤ R.slots) (d : decode cc pc = .ok (.invokevirtual idx, 3))
    (kk : ∀ (H1 : Heap) (locs1 : List Loc), PW D cI cZ cO dom L σ' ow H1 → va_S A H0 H1 locs1 → W p l e R s m args below meth c H1 locs1 cells slots Q (F0 m (pc + 3) ls (.int r :: rest))) : W p l e R s m args below meth c H locs cells slots Q (F0 m pc ls st0) := by
  subst hst
  refine va_calli (va_runV (As := As) (rest := rest) X (hM H.size) (yv_cw X.2.2.2.2 hY hl rfl rfl hR) ⟨rp_blind, pw_recv hK hG kc hO hd, rp_pre hK hG rfl⟩ rfl hn hls rfl (lv_room hrm) d hc) hS (fun q _ h => hA q (aa_le hS.1 q h)) (fun q h => hA q (aa_le hS.1 q h)) ?_
  intro r1 u t H1 locs1 ht _ hw hB _ _ hS1
  subst hw
  rw [ht] at hB
  exact kk H1 locs1 hB hS1
theorem rv_callVg (X : CallFix p m c cc nL s args TB own) (hK : KK D cI cZ cO s) (hG : PW D cI cZ cO dom L σ ow H) (hS : va_S A H0 H locs) (hA : ∀ q, AA ow H0.size q → A q) (hY : YV y RC b n none na) (hl : Cond.methodLink own idx y ∈ TB) {C : Nat} (kc : KC C RC T ty) {O k : Nat} (hO : 100 * C + 99 = O) (hd : dom O k) (As : List Value) (rest : List Value) (hM : RV D cI cZ cO dom l y b n fr lo (.ref (L O k) :: As) L σ ow σ')
    (hst : st0 = As.reverse ++ .ref (L O k) :: rest) (hls : ls.size = nL) (hn : As.length = na) (hrm : (rest.map fun v => v.category).sum ≤ 8) (hR : fr + 1 ≤ R.frames ∧ 8 + (n + 11) + lo ≤ R.locals) (hc : cells ≤ R.cells ∧ slots ≤ R.slots) (d : decode cc pc = .ok (.invokevirtual idx, 3))
    (kk : ∀ (H1 : Heap) (locs1 : List Loc), PW D cI cZ cO dom L σ' ow H1 → va_S A H0 H1 locs1 → W p l e R s m args below meth c H1 locs1 cells slots Q (F0 m (pc + 3) ls rest)) : W p l e R s m args below meth c H locs cells slots Q (F0 m pc ls st0) := by
  subst hst
  refine va_callv (va_runV (As := As) (rest := rest) X (hM H.size) (yv_cw X.2.2.2.2 hY hl rfl rfl hR) ⟨rp_blind, pw_recv hK hG kc hO hd, rp_pre hK hG rfl⟩ rfl hn hls rfl (lv_room hrm) d hc) hS (fun q _ h => hA q (aa_le hS.1 q h)) (fun q h => hA q (aa_le hS.1 q h)) ?_
  intro u t H1 locs1 ht _ _ hB _ _ hS1
  rw [ht] at hB
  exact kk H1 locs1 hB hS1
theorem rm_callSg (X : CallFix p m c cc nL s args TB own) (hK : KK D cI cZ cO s) (hG : PW D cI cZ cO dom L σ ow H) (hS : va_S A H0 H locs) (hA : ∀ q, AA ow H0.size q → A q) (hY : YS y b n ret na) (hl : Cond.methodLink own idx y ∈ TB) (As : List Value) (rest : List Value) (hM : RM D cI cZ cO dom l y b n ret fr lo As L σ ow r σ')
    (hst : st0 = As.reverse ++ rest) (hls : ls.size = nL) (hn : As.length = na) (hrm : (rest.map fun v => v.category).sum ≤ 8) (hR : fr + 1 ≤ R.frames ∧ 8 + (n + 11) + lo ≤ R.locals) (hc : cells ≤ R.cells ∧ slots ≤ R.slots) (d : decode cc pc = .ok (.invokestatic idx, 3))
    (kk : ∀ (H1 : Heap) (locs1 : List Loc), PW D cI cZ cO dom L σ' ow H1 → va_S A H0 H1 locs1 → W p l e R s m args below meth c H1 locs1 cells slots Q (F0 m (pc + 3) ls (.int r :: rest))) : W p l e R s m args below meth c H locs cells slots Q (F0 m pc ls st0) := by
  subst hst
  refine va_calli (va_runS (As := As) (rest := rest) X (hM H.size) (ys_cw X.2.2.2.2 hY hl rfl rfl hR) ⟨rp_blind, rp_pre hK hG rfl⟩ rfl hn hls rfl (lv_room hrm) d hc) hS (fun q _ h => hA q (aa_le hS.1 q h)) (fun q h => hA q (aa_le hS.1 q h)) ?_
  intro r1 u t H1 locs1 ht _ hw hB _ _ hS1
  subst hw
  rw [ht] at hB
  exact kk H1 locs1 hB hS1
theorem rv_callSg (X : CallFix p m c cc nL s args TB own) (hK : KK D cI cZ cO s) (hG : PW D cI cZ cO dom L σ ow H) (hS : va_S A H0 H locs) (hA : ∀ q, AA ow H0.size q → A q) (hY : YS y b n none na) (hl : Cond.methodLink own idx y ∈ TB) (As : List Value) (rest : List Value) (hM : RV D cI cZ cO dom l y b n fr lo As L σ ow σ')
    (hst : st0 = As.reverse ++ rest) (hls : ls.size = nL) (hn : As.length = na) (hrm : (rest.map fun v => v.category).sum ≤ 8) (hR : fr + 1 ≤ R.frames ∧ 8 + (n + 11) + lo ≤ R.locals) (hc : cells ≤ R.cells ∧ slots ≤ R.slots) (d : decode cc pc = .ok (.invokestatic idx, 3))
    (kk : ∀ (H1 : Heap) (locs1 : List Loc), PW D cI cZ cO dom L σ' ow H1 → va_S A H0 H1 locs1 → W p l e R s m args below meth c H1 locs1 cells slots Q (F0 m (pc + 3) ls rest)) : W p l e R s m args below meth c H locs cells slots Q (F0 m pc ls st0) := by
  subst hst
  refine va_callv (va_runS (As := As) (rest := rest) X (hM H.size) (ys_cw X.2.2.2.2 hY hl rfl rfl hR) ⟨rp_blind, rp_pre hK hG rfl⟩ rfl hn hls rfl (lv_room hrm) d hc) hS (fun q _ h => hA q (aa_le hS.1 q h)) (fun q h => hA q (aa_le hS.1 q h)) ?_
  intro u t H1 locs1 ht _ _ hB _ _ hS1
  rw [ht] at hB
  exact kk H1 locs1 hB hS1
end BLD
set_option maxRecDepth 20000 in
theorem ofl_0 (L : Lay) (σ : St) (k : Nat) : ofl L σ 0 k = [.ref (L 0 k), .ref (L 1 k), .ref (L 2 k), .ref (L 3 k), .ref (L 4 k), .int (nI (σ.1 5 k))] := rfl
set_option maxRecDepth 20000 in
theorem ofl_1 (L : Lay) (σ : St) (k : Nat) : ofl L σ 1 k = [.int (σ.2.1 100 k), .int (σ.2.1 101 k)] := rfl
set_option maxRecDepth 20000 in
theorem ofl_2 (L : Lay) (σ : St) (k : Nat) : ofl L σ 2 k = [.ref (L 200 k), .ref (L 201 k), .ref (L 202 k), .ref (L 203 k), .ref (L 204 k), .int (nI (σ.1 205 k)), .int (σ.2.1 206 k), .int (σ.2.1 207 k), .int (nI (σ.1 208 k)), .int (σ.2.1 209 k)] := rfl
set_option maxRecDepth 20000 in
theorem ofl_3 (L : Lay) (σ : St) (k : Nat) : ofl L σ 3 k = [.int (σ.2.1 300 k), .int (σ.2.1 301 k), .int (σ.2.1 302 k), .int (σ.2.1 303 k), .ref (L 304 k), .ref (L 305 k), .int (nI (σ.1 306 k))] := rfl
set_option maxRecDepth 20000 in
theorem ofl_4 (L : Lay) (σ : St) (k : Nat) : ofl L σ 4 k = [.ref (L 400 k), .ref (L 401 k), .int (nI (σ.1 402 k))] := rfl
set_option maxRecDepth 20000 in
theorem ofl_5 (L : Lay) (σ : St) (k : Nat) : ofl L σ 5 k = [.int (σ.2.1 500 k), .int (σ.2.1 501 k), .int (nI (σ.1 502 k)), .ref (L 503 k), .int (nI (σ.1 504 k)), .int (σ.2.1 505 k), .int (nI (σ.1 506 k)), .int (σ.2.1 507 k)] := rfl
set_option maxRecDepth 20000 in
theorem ofl_6 (L : Lay) (σ : St) (k : Nat) : ofl L σ 6 k = [.ref (L 600 k), .ref (L 601 k), .int (nI (σ.1 602 k)), .int (nI (σ.1 603 k)), .int (σ.2.1 604 k)] := rfl
set_option maxRecDepth 20000 in
theorem ofl_7 (L : Lay) (σ : St) (k : Nat) : ofl L σ 7 k = [.ref (L 1099 6), .ref (L 1099 7), .ref (L 702 k), .ref (L 703 k), .int (nI (σ.1 704 k)), .int (nI (σ.1 705 k)), .int (nI (σ.1 706 k)), .int (σ.2.1 707 k), .int (σ.2.1 708 k), .int (σ.2.1 709 k), .int (σ.2.1 710 k)] := rfl
set_option maxRecDepth 20000 in
theorem ofl_8 (L : Lay) (σ : St) (k : Nat) : ofl L σ 8 k = [.ref (L 1099 0), .ref (L 1099 1), .ref (L 1099 2), .ref (L 1099 3), .ref (L 1099 4), .ref (L 1099 5), .ref (L 806 k), .ref (L 807 k), .ref (L 808 k), .ref (L 799 0), .ref (L 699 0), .int (nI (σ.1 811 k)), .int (nI (σ.1 812 k))] := rfl
set_option maxRecDepth 100000 in
set_option maxHeartbeats 4000000 in
theorem nX0_init {D : va_G} {cI cZ cO : ClassId} (l : Launch) (L : Lay) (σ : St) (k sz : Nat) (hL : ∀ z ∈ ([(0, 0), (1, 1), (2, 2), (3, 3), (4, 4)] : List (Nat × Nat)), L z.2 k = sz + z.1) (hA0 : ∀ F ∈ ([0, 1, 2, 3, 4] : List Nat), ∀ i, σ.2.2.1 F k i = 0) (h5 : σ.1 5 k = 0) : Met l yX0_init (wM yX0_init cX0_init 1 none) { frames := 1, cells := 5, slots := 30, locals := 12 } (CP D cI cZ cO (L 99 k) 0 sz [.ref (L 99 k)]) (CQ D cI cZ cO (dl [(99, k), (4, k), (3, k), (2, k), (1, k), (0, k)]) L σ (L 99 k) sz (fun z => z = sz + 5)) 5 30 (oN (L 99 k) sz) := by
  refine cc_of rfl (Nat.le_of_ble_eq_true rfl) ?_
  intro p e s m below meth c ls X hK hsz hat hr hlocks hin hl
  have X : CallFix p m c cX0_init 1 s _ TB RX0 := X
  have hx := X.1
  have hb := X.2.1
  have hS : va_S (oN (L 99 k) sz) s.heap s.heap [] := va_S.rf
  have hl : lv_has ls 1 [(0, .ref (L 99 k))] := hl
  have hB : BW D cI cZ cO [] L σ sz 99 0 k [.null, .null, .null, .null, .null, .int 0] sz s.heap := ⟨PW.none, hat, fun _ _ h => absurd h List.not_mem_nil, hsz, Nat.le_refl _⟩
  refine lv_aload_n hx hb dX0_init_0 rfl (lv_at hl 0 rfl) ?_
  refine W.objInit hx hb X.2.2.2.1 (X.2.2.2.2 _ tw_2_102) (X.2.2.2.2 _ tw_1_40) (X.2.2.2.2 _ tw_1_41) rfl (hl.1.trans X.2.2.1.symm) rfl dX0_init_1 (Nat.le_of_ble_eq_true rfl) (Nat.le_of_ble_eq_true rfl) ?_
  refine W.eq (g2 := F0 m 4 ls []) rfl ?_
  refine lv_aload_n hx hb dX0_init_4 rfl (lv_at hl 0 rfl) ?_
  refine lv_bipush (v := nI 6) hx hb dX0_init_5 (by decide) ?_
  refine bw_new (F := 0) (N := 6) X hK hB hsz hS (ent_A0 (by decide) (by decide) rfl (hA0 0 (by decide))) (hL (0, 0) (by decide)) (by decide) (Nat.le_of_ble_eq_true rfl) (Nat.le_of_ble_eq_true rfl) dX0_init_7 (fun H hB hS => ?_)
  refine bw_put kX0 X hK hB hS 0 (by decide) fw_X0_9 (fun _ h => h) (Or.inr ⟨rfl, hin, rfl⟩) (kX0.2.2.1 0 (by decide)) rfl rfl (Nat.le_of_ble_eq_true rfl) dX0_init_9 (fun H locs hB hS => ?_)
  have hB : BW D cI cZ cO [(0, k)] L σ sz 99 0 k [.ref (L 0 k), .null, .null, .null, .null, .int 0] _ H := hB
  refine lv_aload_n hx hb dX0_init_12 rfl (lv_at hl 0 rfl) ?_
  refine lv_bipush (v := nI 6) hx hb dX0_init_13 (by decide) ?_
  refine bw_new (F := 1) (N := 6) X hK hB hsz hS (ent_A0 (by decide) (by decide) rfl (hA0 1 (by decide))) (hL (1, 1) (by decide)) (by decide) (Nat.le_of_ble_eq_true rfl) (Nat.le_of_ble_eq_true rfl) dX0_init_15 (fun H hB hS => ?_)
  refine bw_put kX0 X hK hB hS 1 (by decide) fw_X0_15 (fun _ h => h) (Or.inr ⟨rfl, hin, rfl⟩) (kX0.2.2.1 1 (by decide)) rfl rfl (Nat.le_of_ble_eq_true rfl) dX0_init_17 (fun H locs hB hS => ?_)
  have hB : BW D cI cZ cO [(1, k), (0, k)] L σ sz 99 0 k [.ref (L 0 k), .ref (L 1 k), .null, .null, .null, .int 0] _ H := hB
  refine lv_aload_n hx hb dX0_init_20 rfl (lv_at hl 0 rfl) ?_
  refine lv_bipush (v := nI 6) hx hb dX0_init_21 (by decide) ?_
  refine bw_new (F := 2) (N := 6) X hK hB hsz hS (ent_A0 (by decide) (by decide) rfl (hA0 2 (by decide))) (hL (2, 2) (by decide)) (by decide) (Nat.le_of_ble_eq_true rfl) (Nat.le_of_ble_eq_true rfl) dX0_init_23 (fun H hB hS => ?_)
  refine bw_put kX0 X hK hB hS 2 (by decide) fw_X0_18 (fun _ h => h) (Or.inr ⟨rfl, hin, rfl⟩) (kX0.2.2.1 2 (by decide)) rfl rfl (Nat.le_of_ble_eq_true rfl) dX0_init_25 (fun H locs hB hS => ?_)
  have hB : BW D cI cZ cO [(2, k), (1, k), (0, k)] L σ sz 99 0 k [.ref (L 0 k), .ref (L 1 k), .ref (L 2 k), .null, .null, .int 0] _ H := hB
  refine lv_aload_n hx hb dX0_init_28 rfl (lv_at hl 0 rfl) ?_
  refine lv_bipush (v := nI 6) hx hb dX0_init_29 (by decide) ?_
  refine bw_new (F := 3) (N := 6) X hK hB hsz hS (ent_A0 (by decide) (by decide) rfl (hA0 3 (by decide))) (hL (3, 3) (by decide)) (by decide) (Nat.le_of_ble_eq_true rfl) (Nat.le_of_ble_eq_true rfl) dX0_init_31 (fun H hB hS => ?_)
  refine bw_put kX0 X hK hB hS 3 (by decide) fw_X0_21 (fun _ h => h) (Or.inr ⟨rfl, hin, rfl⟩) (kX0.2.2.1 3 (by decide)) rfl rfl (Nat.le_of_ble_eq_true rfl) dX0_init_33 (fun H locs hB hS => ?_)
  have hB : BW D cI cZ cO [(3, k), (2, k), (1, k), (0, k)] L σ sz 99 0 k [.ref (L 0 k), .ref (L 1 k), .ref (L 2 k), .ref (L 3 k), .null, .int 0] _ H := hB
  refine lv_aload_n hx hb dX0_init_36 rfl (lv_at hl 0 rfl) ?_
  refine lv_bipush (v := nI 6) hx hb dX0_init_37 (by decide) ?_
  refine bw_new (F := 4) (N := 6) X hK hB hsz hS (ent_A0 (by decide) (by decide) rfl (hA0 4 (by decide))) (hL (4, 4) (by decide)) (by decide) (Nat.le_of_ble_eq_true rfl) (Nat.le_of_ble_eq_true rfl) dX0_init_39 (fun H hB hS => ?_)
  refine bw_put kX0 X hK hB hS 4 (by decide) fw_X0_24 (fun _ h => h) (Or.inr ⟨rfl, hin, rfl⟩) (kX0.2.2.1 4 (by decide)) rfl rfl (Nat.le_of_ble_eq_true rfl) dX0_init_41 (fun H locs hB hS => ?_)
  have hB : BW D cI cZ cO [(4, k), (3, k), (2, k), (1, k), (0, k)] L σ sz 99 0 k [.ref (L 0 k), .ref (L 1 k), .ref (L 2 k), .ref (L 3 k), .ref (L 4 k), .int 0] _ H := hB
  have hfs : [.ref (L 0 k), .ref (L 1 k), .ref (L 2 k), .ref (L 3 k), .ref (L 4 k), .int 0] = ofl L σ 0 k := by
    rw [ofl_0, h5]
    all_goals rfl
  have hG := bw_done rfl hB hfs
  have hz : H.size = sz + 5 := hB.2.2.2.1
  exact cc_ret hx hb hr hlocks hG hz hS dX0_init_44
set_option maxRecDepth 100000 in
set_option maxHeartbeats 4000000 in
theorem nX1_init {D : va_G} {cI cZ cO : ClassId} (l : Launch) (L : Lay) (σ : St) (k sz : Nat) (h100 : σ.2.1 100 k = (-1)) (h101 : σ.2.1 101 k = 0) : Met l yX1_init (wM yX1_init cX1_init 1 none) { frames := 1, cells := 0, slots := 0, locals := 12 } (CP D cI cZ cO (L 199 k) 1 sz [.ref (L 199 k)]) (CQ D cI cZ cO (dl [(199, k)]) L σ (L 199 k) sz (fun z => z = sz + 0)) 0 0 (oN (L 199 k) sz) := by
  refine cc_of rfl (Nat.le_of_ble_eq_true rfl) ?_
  intro p e s m below meth c ls X hK hsz hat hr hlocks hin hl
  have X : CallFix p m c cX1_init 1 s _ TB RX1 := X
  have hx := X.1
  have hb := X.2.1
  have hS : va_S (oN (L 199 k) sz) s.heap s.heap [] := va_S.rf
  have hl : lv_has ls 1 [(0, .ref (L 199 k))] := hl
  have hB : BW D cI cZ cO [] L σ sz 199 1 k [.int 0, .int 0] sz s.heap := ⟨PW.none, hat, fun _ _ h => absurd h List.not_mem_nil, hsz, Nat.le_refl _⟩
  refine lv_aload_n hx hb dX1_init_0 rfl (lv_at hl 0 rfl) ?_
  refine W.objInit hx hb X.2.2.2.1 (X.2.2.2.2 _ tw_1_148) (X.2.2.2.2 _ tw_1_40) (X.2.2.2.2 _ tw_1_41) rfl (hl.1.trans X.2.2.1.symm) rfl dX1_init_1 (Nat.le_of_ble_eq_true rfl) (Nat.le_of_ble_eq_true rfl) ?_
  refine W.eq (g2 := F0 m 4 ls []) rfl ?_
  refine lv_aload_n hx hb dX1_init_4 rfl (lv_at hl 0 rfl) ?_
  refine lv_iconst (v := (-1)) hx hb dX1_init_5 (by decide) ?_
  refine bw_put kX1 X hK hB hS 0 (by decide) fw_X1_9 (fun _ h => h) (Or.inl rfl) (kX1.2.2.1 0 (by decide)) rfl rfl (Nat.le_of_ble_eq_true rfl) dX1_init_6 (fun H locs hB hS => ?_)
  have hB : BW D cI cZ cO [] L σ sz 199 1 k [.int (-1), .int 0] _ H := hB
  have hfs : [.int (-1), .int 0] = ofl L σ 1 k := by
    rw [ofl_1, h100, h101]
    all_goals rfl
  have hG := bw_done rfl hB hfs
  have hz : H.size = sz + 0 := hB.2.2.2.1
  exact cc_ret hx hb hr hlocks hG hz hS dX1_init_9
set_option maxRecDepth 100000 in
set_option maxHeartbeats 4000000 in
theorem nX3_init {D : va_G} {cI cZ cO : ClassId} (l : Launch) (L : Lay) (σ : St) (k sz : Nat) (v1 v2 v3 v4 : Int32) (hL : ∀ z ∈ ([(0, 304), (1, 305)] : List (Nat × Nat)), L z.2 k = sz + z.1) (hB0 : ∀ F ∈ ([304, 305] : List Nat), ∀ i, σ.2.2.2 F k i = 0) (h300 : σ.2.1 300 k = v1) (h301 : σ.2.1 301 k = v2) (h302 : σ.2.1 302 k = v3) (h303 : σ.2.1 303 k = v4) (h306 : σ.1 306 k = 0) : Met l yX3_init (wM yX3_init cX3_init 5 none) { frames := 1, cells := 2, slots := 12, locals := 12 } (CP D cI cZ cO (L 399 k) 3 sz [.ref (L 399 k), .int v1, .int v2, .int v3, .int v4]) (CQ D cI cZ cO (dl [(399, k), (305, k), (304, k)]) L σ (L 399 k) sz (fun z => z = sz + 2)) 2 12 (oN (L 399 k) sz) := by
  refine cc_of rfl (Nat.le_of_ble_eq_true rfl) ?_
  intro p e s m below meth c ls X hK hsz hat hr hlocks hin hl
  have X : CallFix p m c cX3_init 5 s _ TB RX3 := X
  have hx := X.1
  have hb := X.2.1
  have hS : va_S (oN (L 399 k) sz) s.heap s.heap [] := va_S.rf
  have hl : lv_has ls 5 [(0, .ref (L 399 k)), (1, .int v1), (2, .int v2), (3, .int v3), (4, .int v4)] := hl
  have hB : BW D cI cZ cO [] L σ sz 399 3 k [.int 0, .int 0, .int 0, .int 0, .null, .null, .int 0] sz s.heap := ⟨PW.none, hat, fun _ _ h => absurd h List.not_mem_nil, hsz, Nat.le_refl _⟩
  refine lv_aload_n hx hb dX3_init_0 rfl (lv_at hl 0 rfl) ?_
  refine W.objInit hx hb X.2.2.2.1 (X.2.2.2.2 _ tw_4_91) (X.2.2.2.2 _ tw_1_40) (X.2.2.2.2 _ tw_1_41) rfl (hl.1.trans X.2.2.1.symm) rfl dX3_init_1 (Nat.le_of_ble_eq_true rfl) (Nat.le_of_ble_eq_true rfl) ?_
  refine W.eq (g2 := F0 m 4 ls []) rfl ?_
  refine lv_aload_n hx hb dX3_init_4 rfl (lv_at hl 0 rfl) ?_
  refine lv_bipush (v := nI 6) hx hb dX3_init_5 (by decide) ?_
  refine bw_new (F := 304) (N := 6) X hK hB hsz hS (ent_B0 (by decide) (by decide) rfl (hB0 304 (by decide))) (hL (0, 304) (by decide)) (by decide) (Nat.le_of_ble_eq_true rfl) (Nat.le_of_ble_eq_true rfl) dX3_init_7 (fun H hB hS => ?_)
  refine bw_put kX3 X hK hB hS 4 (by decide) fw_X3_9 (fun _ h => h) (Or.inr ⟨rfl, hin, rfl⟩) (kX3.2.2.1 4 (by decide)) rfl rfl (Nat.le_of_ble_eq_true rfl) dX3_init_9 (fun H locs hB hS => ?_)
  have hB : BW D cI cZ cO [(304, k)] L σ sz 399 3 k [.int 0, .int 0, .int 0, .int 0, .ref (L 304 k), .null, .int 0] _ H := hB
  refine lv_aload_n hx hb dX3_init_12 rfl (lv_at hl 0 rfl) ?_
  refine lv_bipush (v := nI 6) hx hb dX3_init_13 (by decide) ?_
  refine bw_new (F := 305) (N := 6) X hK hB hsz hS (ent_B0 (by decide) (by decide) rfl (hB0 305 (by decide))) (hL (1, 305) (by decide)) (by decide) (Nat.le_of_ble_eq_true rfl) (Nat.le_of_ble_eq_true rfl) dX3_init_15 (fun H hB hS => ?_)
  refine bw_put kX3 X hK hB hS 5 (by decide) fw_X3_15 (fun _ h => h) (Or.inr ⟨rfl, hin, rfl⟩) (kX3.2.2.1 5 (by decide)) rfl rfl (Nat.le_of_ble_eq_true rfl) dX3_init_17 (fun H locs hB hS => ?_)
  have hB : BW D cI cZ cO [(305, k), (304, k)] L σ sz 399 3 k [.int 0, .int 0, .int 0, .int 0, .ref (L 304 k), .ref (L 305 k), .int 0] _ H := hB
  refine lv_aload_n hx hb dX3_init_20 rfl (lv_at hl 0 rfl) ?_
  refine lv_iload_n hx hb dX3_init_21 rfl (lv_at hl 1 rfl) ?_
  refine bw_put kX3 X hK hB hS 0 (by decide) fw_X3_18 (fun _ h => h) (Or.inr ⟨rfl, hin, rfl⟩) (kX3.2.2.1 0 (by decide)) rfl rfl (Nat.le_of_ble_eq_true rfl) dX3_init_22 (fun H locs hB hS => ?_)
  have hB : BW D cI cZ cO [(305, k), (304, k)] L σ sz 399 3 k [.int v1, .int 0, .int 0, .int 0, .ref (L 304 k), .ref (L 305 k), .int 0] _ H := hB
  refine lv_aload_n hx hb dX3_init_25 rfl (lv_at hl 0 rfl) ?_
  refine lv_iload_n hx hb dX3_init_26 rfl (lv_at hl 2 rfl) ?_
  refine bw_put kX3 X hK hB hS 1 (by decide) fw_X3_22 (fun _ h => h) (Or.inr ⟨rfl, hin, rfl⟩) (kX3.2.2.1 1 (by decide)) rfl rfl (Nat.le_of_ble_eq_true rfl) dX3_init_27 (fun H locs hB hS => ?_)
  have hB : BW D cI cZ cO [(305, k), (304, k)] L σ sz 399 3 k [.int v1, .int v2, .int 0, .int 0, .ref (L 304 k), .ref (L 305 k), .int 0] _ H := hB
  refine lv_aload_n hx hb dX3_init_30 rfl (lv_at hl 0 rfl) ?_
  refine lv_iload_n hx hb dX3_init_31 rfl (lv_at hl 3 rfl) ?_
  refine bw_put kX3 X hK hB hS 2 (by decide) fw_X3_25 (fun _ h => h) (Or.inr ⟨rfl, hin, rfl⟩) (kX3.2.2.1 2 (by decide)) rfl rfl (Nat.le_of_ble_eq_true rfl) dX3_init_32 (fun H locs hB hS => ?_)
  have hB : BW D cI cZ cO [(305, k), (304, k)] L σ sz 399 3 k [.int v1, .int v2, .int v3, .int 0, .ref (L 304 k), .ref (L 305 k), .int 0] _ H := hB
  refine lv_aload_n hx hb dX3_init_35 rfl (lv_at hl 0 rfl) ?_
  refine lv_iload hx hb dX3_init_36 (lv_at hl 4 rfl) ?_
  refine bw_put kX3 X hK hB hS 3 (by decide) fw_X3_28 (fun _ h => h) (Or.inr ⟨rfl, hin, rfl⟩) (kX3.2.2.1 3 (by decide)) rfl rfl (Nat.le_of_ble_eq_true rfl) dX3_init_38 (fun H locs hB hS => ?_)
  have hB : BW D cI cZ cO [(305, k), (304, k)] L σ sz 399 3 k [.int v1, .int v2, .int v3, .int v4, .ref (L 304 k), .ref (L 305 k), .int 0] _ H := hB
  have hfs : [.int v1, .int v2, .int v3, .int v4, .ref (L 304 k), .ref (L 305 k), .int 0] = ofl L σ 3 k := by
    rw [ofl_3, h300, h301, h302, h303, h306]
    all_goals rfl
  have hG := bw_done rfl hB hfs
  have hz : H.size = sz + 2 := hB.2.2.2.1
  exact cc_ret hx hb hr hlocks hG hz hS dX3_init_41
set_option maxRecDepth 100000 in
set_option maxHeartbeats 4000000 in
theorem nX4_init {D : va_G} {cI cZ cO : ClassId} (l : Launch) (L : Lay) (σ : St) (k sz : Nat) (hL : ∀ z ∈ ([(0, 400), (1, 401)] : List (Nat × Nat)), L z.2 k = sz + z.1) (hB0 : ∀ F ∈ ([400, 401] : List Nat), ∀ i, σ.2.2.2 F k i = 0) (h402 : σ.1 402 k = 0) : Met l yX4_init (wM yX4_init cX4_init 1 none) { frames := 1, cells := 2, slots := 60, locals := 12 } (CP D cI cZ cO (L 499 k) 4 sz [.ref (L 499 k)]) (CQ D cI cZ cO (dl [(499, k), (401, k), (400, k)]) L σ (L 499 k) sz (fun z => z = sz + 2)) 2 60 (oN (L 499 k) sz) := by
  refine cc_of rfl (Nat.le_of_ble_eq_true rfl) ?_
  intro p e s m below meth c ls X hK hsz hat hr hlocks hin hl
  have X : CallFix p m c cX4_init 1 s _ TB RX4 := X
  have hx := X.1
  have hb := X.2.1
  have hS : va_S (oN (L 499 k) sz) s.heap s.heap [] := va_S.rf
  have hl : lv_has ls 1 [(0, .ref (L 499 k))] := hl
  have hB : BW D cI cZ cO [] L σ sz 499 4 k [.null, .null, .int 0] sz s.heap := ⟨PW.none, hat, fun _ _ h => absurd h List.not_mem_nil, hsz, Nat.le_refl _⟩
  refine lv_aload_n hx hb dX4_init_0 rfl (lv_at hl 0 rfl) ?_
  refine W.objInit hx hb X.2.2.2.1 (X.2.2.2.2 _ tw_3_83) (X.2.2.2.2 _ tw_1_40) (X.2.2.2.2 _ tw_1_41) rfl (hl.1.trans X.2.2.1.symm) rfl dX4_init_1 (Nat.le_of_ble_eq_true rfl) (Nat.le_of_ble_eq_true rfl) ?_
  refine W.eq (g2 := F0 m 4 ls []) rfl ?_
  refine lv_aload_n hx hb dX4_init_4 rfl (lv_at hl 0 rfl) ?_
  refine lv_bipush (v := nI 30) hx hb dX4_init_5 (by decide) ?_
  refine bw_new (F := 400) (N := 30) X hK hB hsz hS (ent_B0 (by decide) (by decide) rfl (hB0 400 (by decide))) (hL (0, 400) (by decide)) (by decide) (Nat.le_of_ble_eq_true rfl) (Nat.le_of_ble_eq_true rfl) dX4_init_7 (fun H hB hS => ?_)
  refine bw_put kX4 X hK hB hS 0 (by decide) fw_X4_9 (fun _ h => h) (Or.inr ⟨rfl, hin, rfl⟩) (kX4.2.2.1 0 (by decide)) rfl rfl (Nat.le_of_ble_eq_true rfl) dX4_init_9 (fun H locs hB hS => ?_)
  have hB : BW D cI cZ cO [(400, k)] L σ sz 499 4 k [.ref (L 400 k), .null, .int 0] _ H := hB
  refine lv_aload_n hx hb dX4_init_12 rfl (lv_at hl 0 rfl) ?_
  refine lv_bipush (v := nI 30) hx hb dX4_init_13 (by decide) ?_
  refine bw_new (F := 401) (N := 30) X hK hB hsz hS (ent_B0 (by decide) (by decide) rfl (hB0 401 (by decide))) (hL (1, 401) (by decide)) (by decide) (Nat.le_of_ble_eq_true rfl) (Nat.le_of_ble_eq_true rfl) dX4_init_15 (fun H hB hS => ?_)
  refine bw_put kX4 X hK hB hS 1 (by decide) fw_X4_15 (fun _ h => h) (Or.inr ⟨rfl, hin, rfl⟩) (kX4.2.2.1 1 (by decide)) rfl rfl (Nat.le_of_ble_eq_true rfl) dX4_init_17 (fun H locs hB hS => ?_)
  have hB : BW D cI cZ cO [(401, k), (400, k)] L σ sz 499 4 k [.ref (L 400 k), .ref (L 401 k), .int 0] _ H := hB
  have hfs : [.ref (L 400 k), .ref (L 401 k), .int 0] = ofl L σ 4 k := by
    rw [ofl_4, h402]
    all_goals rfl
  have hG := bw_done rfl hB hfs
  have hz : H.size = sz + 2 := hB.2.2.2.1
  exact cc_ret hx hb hr hlocks hG hz hS dX4_init_20
set_option maxRecDepth 100000 in
set_option maxHeartbeats 4000000 in
theorem nX6_init {D : va_G} {cI cZ cO : ClassId} (l : Launch) (L : Lay) (σ : St) (k sz : Nat) (hL : ∀ z ∈ ([(0, 600), (1, 601)] : List (Nat × Nat)), L z.2 k = sz + z.1) (hA0 : ∀ F ∈ ([601] : List Nat), ∀ i, σ.2.2.1 F k i = 0) (hB0 : ∀ F ∈ ([600] : List Nat), ∀ i, σ.2.2.2 F k i = 0) (h602 : σ.1 602 k = 0) (h603 : σ.1 603 k = 0) (h604 : σ.2.1 604 k = 0) : Met l yX6_init (wM yX6_init cX6_init 1 none) { frames := 1, cells := 2, slots := 148, locals := 12 } (CP D cI cZ cO (L 699 k) 6 sz [.ref (L 699 k)]) (CQ D cI cZ cO (dl [(699, k), (601, k), (600, k)]) L σ (L 699 k) sz (fun z => z = sz + 2)) 2 148 (oN (L 699 k) sz) := by
  refine cc_of rfl (Nat.le_of_ble_eq_true rfl) ?_
  intro p e s m below meth c ls X hK hsz hat hr hlocks hin hl
  have X : CallFix p m c cX6_init 1 s _ TB RX6 := X
  have hx := X.1
  have hb := X.2.1
  have hS : va_S (oN (L 699 k) sz) s.heap s.heap [] := va_S.rf
  have hl : lv_has ls 1 [(0, .ref (L 699 k))] := hl
  have hB : BW D cI cZ cO [] L σ sz 699 6 k [.null, .null, .int 0, .int 0, .int 0] sz s.heap := ⟨PW.none, hat, fun _ _ h => absurd h List.not_mem_nil, hsz, Nat.le_refl _⟩
  refine lv_aload_n hx hb dX6_init_0 rfl (lv_at hl 0 rfl) ?_
  refine W.objInit hx hb X.2.2.2.1 (X.2.2.2.2 _ tw_1_122) (X.2.2.2.2 _ tw_1_40) (X.2.2.2.2 _ tw_1_41) rfl (hl.1.trans X.2.2.1.symm) rfl dX6_init_1 (Nat.le_of_ble_eq_true rfl) (Nat.le_of_ble_eq_true rfl) ?_
  refine W.eq (g2 := F0 m 4 ls []) rfl ?_
  refine lv_aload_n hx hb dX6_init_4 rfl (lv_at hl 0 rfl) ?_
  refine lv_sipush (v := nI 144) hx hb dX6_init_5 (by decide) ?_
  refine bw_new (F := 600) (N := 144) X hK hB hsz hS (ent_B0 (by decide) (by decide) rfl (hB0 600 (by decide))) (hL (0, 600) (by decide)) (by decide) (Nat.le_of_ble_eq_true rfl) (Nat.le_of_ble_eq_true rfl) dX6_init_8 (fun H hB hS => ?_)
  refine bw_put kX6 X hK hB hS 0 (by decide) fw_X6_9 (fun _ h => h) (Or.inr ⟨rfl, hin, rfl⟩) (kX6.2.2.1 0 (by decide)) rfl rfl (Nat.le_of_ble_eq_true rfl) dX6_init_10 (fun H locs hB hS => ?_)
  have hB : BW D cI cZ cO [(600, k)] L σ sz 699 6 k [.ref (L 600 k), .null, .int 0, .int 0, .int 0] _ H := hB
  refine lv_aload_n hx hb dX6_init_13 rfl (lv_at hl 0 rfl) ?_
  refine lv_iconst (v := nI 4) hx hb dX6_init_14 (by decide) ?_
  refine bw_new (F := 601) (N := 4) X hK hB hsz hS (ent_A0 (by decide) (by decide) rfl (hA0 601 (by decide))) (hL (1, 601) (by decide)) (by decide) (Nat.le_of_ble_eq_true rfl) (Nat.le_of_ble_eq_true rfl) dX6_init_15 (fun H hB hS => ?_)
  refine bw_put kX6 X hK hB hS 1 (by decide) fw_X6_15 (fun _ h => h) (Or.inr ⟨rfl, hin, rfl⟩) (kX6.2.2.1 1 (by decide)) rfl rfl (Nat.le_of_ble_eq_true rfl) dX6_init_17 (fun H locs hB hS => ?_)
  have hB : BW D cI cZ cO [(601, k), (600, k)] L σ sz 699 6 k [.ref (L 600 k), .ref (L 601 k), .int 0, .int 0, .int 0] _ H := hB
  have hfs : [.ref (L 600 k), .ref (L 601 k), .int 0, .int 0, .int 0] = ofl L σ 6 k := by
    rw [ofl_6, h602, h603, h604]
    all_goals rfl
  have hG := bw_done rfl hB hfs
  have hz : H.size = sz + 2 := hB.2.2.2.1
  exact cc_ret hx hb hr hlocks hG hz hS dX6_init_20
set_option maxRecDepth 100000 in
set_option maxHeartbeats 4000000 in
theorem nX5_init {D : va_G} {cI cZ cO : ClassId} (l : Launch) (L : Lay) (σ : St) (k sz : Nat) (v1 v2 : Int32) (v3 : Nat) (hL : ∀ z ∈ ([(0, 503)] : List (Nat × Nat)), L z.2 k = sz + z.1) (hB0 : ∀ F ∈ ([503] : List Nat), ∀ i, σ.2.2.2 F k i = 0) (h500 : σ.2.1 500 k = v1) (h501 : σ.2.1 501 k = v2) (h502 : σ.1 502 k = v3) (h504 : σ.1 504 k = 0) (h505 : σ.2.1 505 k = 0) (h506 : σ.1 506 k = 0) (h507 : σ.2.1 507 k = 0) : Met l yX5_init (wM yX5_init cX5_init 4 none) { frames := 1, cells := 1, slots := 3, locals := 12 } (CP D cI cZ cO (L 599 k) 5 sz [.ref (L 599 k), .int v1, .int v2, .int (nI v3)]) (CQ D cI cZ cO (dl [(599, k), (503, k)]) L σ (L 599 k) sz (fun z => z = sz + 1)) 1 3 (oN (L 599 k) sz) := by
  refine cc_of rfl (Nat.le_of_ble_eq_true rfl) ?_
  intro p e s m below meth c ls X hK hsz hat hr hlocks hin hl
  have X : CallFix p m c cX5_init 4 s _ TB RX5 := X
  have hx := X.1
  have hb := X.2.1
  have hS : va_S (oN (L 599 k) sz) s.heap s.heap [] := va_S.rf
  have hl : lv_has ls 4 [(0, .ref (L 599 k)), (1, .int v1), (2, .int v2), (3, .int (nI v3))] := hl
  have hB : BW D cI cZ cO [] L σ sz 599 5 k [.int 0, .int 0, .int 0, .null, .int 0, .int 0, .int 0, .int 0] sz s.heap := ⟨PW.none, hat, fun _ _ h => absurd h List.not_mem_nil, hsz, Nat.le_refl _⟩
  refine lv_aload_n hx hb dX5_init_0 rfl (lv_at hl 0 rfl) ?_
  refine W.objInit hx hb X.2.2.2.1 (X.2.2.2.2 _ tw_3_26) (X.2.2.2.2 _ tw_1_40) (X.2.2.2.2 _ tw_1_41) rfl (hl.1.trans X.2.2.1.symm) rfl dX5_init_1 (Nat.le_of_ble_eq_true rfl) (Nat.le_of_ble_eq_true rfl) ?_
  refine W.eq (g2 := F0 m 4 ls []) rfl ?_
  refine lv_aload_n hx hb dX5_init_4 rfl (lv_at hl 0 rfl) ?_
  refine lv_iconst (v := nI 3) hx hb dX5_init_5 (by decide) ?_
  refine bw_new (F := 503) (N := 3) X hK hB hsz hS (ent_B0 (by decide) (by decide) rfl (hB0 503 (by decide))) (hL (0, 503) (by decide)) (by decide) (Nat.le_of_ble_eq_true rfl) (Nat.le_of_ble_eq_true rfl) dX5_init_6 (fun H hB hS => ?_)
  refine bw_put kX5 X hK hB hS 3 (by decide) fw_X5_9 (fun _ h => h) (Or.inr ⟨rfl, hin, rfl⟩) (kX5.2.2.1 3 (by decide)) rfl rfl (Nat.le_of_ble_eq_true rfl) dX5_init_8 (fun H locs hB hS => ?_)
  have hB : BW D cI cZ cO [(503, k)] L σ sz 599 5 k [.int 0, .int 0, .int 0, .ref (L 503 k), .int 0, .int 0, .int 0, .int 0] _ H := hB
  refine lv_aload_n hx hb dX5_init_11 rfl (lv_at hl 0 rfl) ?_
  refine lv_iload_n hx hb dX5_init_12 rfl (lv_at hl 1 rfl) ?_
  refine bw_put kX5 X hK hB hS 0 (by decide) fw_X5_15 (fun _ h => h) (Or.inr ⟨rfl, hin, rfl⟩) (kX5.2.2.1 0 (by decide)) rfl rfl (Nat.le_of_ble_eq_true rfl) dX5_init_13 (fun H locs hB hS => ?_)
  have hB : BW D cI cZ cO [(503, k)] L σ sz 599 5 k [.int v1, .int 0, .int 0, .ref (L 503 k), .int 0, .int 0, .int 0, .int 0] _ H := hB
  refine lv_aload_n hx hb dX5_init_16 rfl (lv_at hl 0 rfl) ?_
  refine lv_iload_n hx hb dX5_init_17 rfl (lv_at hl 2 rfl) ?_
  refine bw_put kX5 X hK hB hS 1 (by decide) fw_X5_19 (fun _ h => h) (Or.inr ⟨rfl, hin, rfl⟩) (kX5.2.2.1 1 (by decide)) rfl rfl (Nat.le_of_ble_eq_true rfl) dX5_init_18 (fun H locs hB hS => ?_)
  have hB : BW D cI cZ cO [(503, k)] L σ sz 599 5 k [.int v1, .int v2, .int 0, .ref (L 503 k), .int 0, .int 0, .int 0, .int 0] _ H := hB
  refine lv_aload_n hx hb dX5_init_21 rfl (lv_at hl 0 rfl) ?_
  refine lv_iload_n hx hb dX5_init_22 rfl (lv_at hl 3 rfl) ?_
  refine bw_put kX5 X hK hB hS 2 (by decide) fw_X5_22 (fun _ h => h) (Or.inr ⟨rfl, hin, rfl⟩) (kX5.2.2.1 2 (by decide)) rfl rfl (Nat.le_of_ble_eq_true rfl) dX5_init_23 (fun H locs hB hS => ?_)
  have hB : BW D cI cZ cO [(503, k)] L σ sz 599 5 k [.int v1, .int v2, .int (nI v3), .ref (L 503 k), .int 0, .int 0, .int 0, .int 0] _ H := hB
  have hfs : [.int v1, .int v2, .int (nI v3), .ref (L 503 k), .int 0, .int 0, .int 0, .int 0] = ofl L σ 5 k := by
    rw [ofl_5, h500, h501, h502, h504, h505, h506, h507]
    all_goals rfl
  have hG := bw_done rfl hB hfs
  have hz : H.size = sz + 1 := hB.2.2.2.1
  exact cc_ret hx hb hr hlocks hG hz hS dX5_init_26
def m_fill (F k : Nat) (v : Int32) : Nat → St → St
  | 0, σ => σ
  | n + 1, σ => wB (m_fill F k v n σ) F k n v
theorem c_fill {D : va_G} {cI cZ cO : ClassId} {dom : Nat → Nat → Prop} (l : Launch) (L : Lay) (σ : St) (ow : Nat → Prop) (F k N : Nat) (v : Int32) (hd : dom F k) (hF : FA F 3) (hN : flen F = N) (h5 : N < 100000) : RV D cI cZ cO dom l yJ7_fill_53178 cJ7_fill_53178 4 0 0 [.ref (L F k), .int v] L σ ow (m_fill F k v N σ) := by
  refine rv_of rfl (Nat.le_of_ble_eq_true rfl) ?_
  intro p e s m below meth c ls X hK hG hr hlocks hl
  have X : CallFix p m c cJ7_fill_53178 4 s _ TB RJ7 := X
  have hx := X.1
  have hb := X.2.1
  have hS : va_S (AA ow s.heap.size) s.heap s.heap [] := va_S.rf
  have hA : ∀ q, ow q → AA ow s.heap.size q := fun _ h => Or.inl h
  have hl : lv_has ls 4 [(0, .ref (L F k)), (1, .int v)] := hl
  refine lv_iconst (v := nI 0) hx hb dJ7_fill_53178_0 (by decide) ?_
  refine lv_istore_n (lv' := [(2, .int (nI 0)), (0, .ref (L F k)), (1, .int v)]) hx hb dJ7_fill_53178_1 rfl hl (by decide) rfl (fun ls hl => ?_)
  refine lv_aload_n hx hb dJ7_fill_53178_2 rfl (lv_at hl 1 rfl) ?_
  refine pw_alen X hK hG F (Or.inr hF) hd hN dJ7_fill_53178_3 ?_
  refine lv_istore_n (lv' := [(3, .int (nI N)), (2, .int (nI 0)), (0, .ref (L F k)), (1, .int v)]) hx hb dJ7_fill_53178_4 rfl hl (by decide) rfl (fun ls hl => ?_)
  refine r_loop (ι := Nat) (fun (n9 : Nat) => [(0, .ref (L F k)), (1, .int v), (2, .int (nI n9)), (3, .int (nI N))]) (fun (n9 : Nat) => m_fill F k v n9 σ) (fun (n9 : Nat) => N - n9) (fun (n9 : Nat) => n9 ≤ N) 0 (Nat.zero_le _) hG hS (lv_sub hl [2, 3, 1, 0] rfl) ?_
  rintro n9 hinv ih H locs ls hG hS hl
  have hG : PW D cI cZ cO dom L (m_fill F k v n9 σ) ow H := hG
  have hl : lv_has ls 4 [(0, .ref (L F k)), (1, .int v), (2, .int (nI n9)), (3, .int (nI N))] := hl
  have hk : n9 ≤ N := hinv
  refine lv_iload_n hx hb dJ7_fill_53178_5 rfl (lv_at hl 2 rfl) ?_
  refine lv_iload_n hx hb dJ7_fill_53178_6 rfl (lv_at hl 3 rfl) ?_
  refine r_icmp_geN (tgt := 20) hx hb dJ7_fill_53178_7 (by decide) (by omega) (by omega) (fun c_7 => ?_) (fun c_7 => ?_)
  · have e : n9 = N := by omega
    subst e
    exact rv_ret hx hb hr hlocks hG hS rfl dJ7_fill_53178_20
  · refine lv_aload_n hx hb dJ7_fill_53178_10 rfl (lv_at hl 0 rfl) ?_
    refine lv_iload_n hx hb dJ7_fill_53178_11 rfl (lv_at hl 2 rfl) ?_
    refine lv_iload_n hx hb dJ7_fill_53178_12 rfl (lv_at hl 1 rfl) ?_
    refine pw_astI X hK hG hS hA F hF hd hN (i := n9) c_7 (by omega) dJ7_fill_53178_13 (fun H locs hG hS => ?_)
    refine r_iincN (b := 1) (lv' := [(2, .int (nI (n9 + 1))), (0, .ref (L F k)), (1, .int v), (3, .int (nI N))]) hx hb dJ7_fill_53178_14 hl (k := 2) rfl (by decide) (by decide) rfl (fun ls hl => ?_)
    refine lv_goto (tgt := 5) hx hb dJ7_fill_53178_17 (by decide) ?_
    exact ih (n9 + 1) (by show N - (n9 + 1) < N - n9; omega) (by show n9 + 1 ≤ N; omega) H locs ls hG hS (lv_sub hl [1, 2, 0, 3] rfl)
set_option maxRecDepth 100000 in
set_option maxHeartbeats 4000000 in
theorem nX2_init {D : va_G} {cI cZ cO : ClassId} (l : Launch) (L : Lay) (σ : St) (k sz : Nat) (v1 : Int32) (hL : ∀ z ∈ ([(0, 200), (1, 201), (2, 202), (3, 203), (4, 204)] : List (Nat × Nat)), L z.2 k = sz + z.1) (hB0 : ∀ F ∈ ([200, 201, 202, 203, 204] : List Nat), ∀ i, σ.2.2.2 F k i = 0) (h205 : σ.1 205 k = 0) (h206 : σ.2.1 206 k = nI 0) (h207 : σ.2.1 207 k = (-1)) (h208 : σ.1 208 k = 0) (h209 : σ.2.1 209 k = (-1)) : Met l yX2_init (wM yX2_init cX2_init 2 none) { frames := 1, cells := 5, slots := 720, locals := 23 } (CP D cI cZ cO (L 299 k) 2 sz [.ref (L 299 k), .int v1]) (CQ D cI cZ cO (dl [(299, k), (204, k), (203, k), (202, k), (201, k), (200, k)]) L (m_fill 203 k (-1) 144 (m_fill 202 k (-1) 144 (m_fill 201 k (nI 1000 * v1) 144 (m_fill 200 k v1 144 σ)))) (L 299 k) sz (fun _ => True)) 5 720 (oN (L 299 k) sz) := by
  refine cc_of rfl (Nat.le_of_ble_eq_true rfl) ?_
  intro p e s m below meth c ls X hK hsz hat hr hlocks hin hl
  have X : CallFix p m c cX2_init 2 s _ TB RX2 := X
  have hx := X.1
  have hb := X.2.1
  have hS : va_S (oN (L 299 k) sz) s.heap s.heap [] := va_S.rf
  have hl : lv_has ls 2 [(0, .ref (L 299 k)), (1, .int v1)] := hl
  have hB : BW D cI cZ cO [] L σ sz 299 2 k [.null, .null, .null, .null, .null, .int 0, .int 0, .int 0, .int 0, .int 0] sz s.heap := ⟨PW.none, hat, fun _ _ h => absurd h List.not_mem_nil, hsz, Nat.le_refl _⟩
  refine lv_aload_n hx hb dX2_init_0 rfl (lv_at hl 0 rfl) ?_
  refine W.objInit hx hb X.2.2.2.1 (X.2.2.2.2 _ tw_2_161) (X.2.2.2.2 _ tw_1_40) (X.2.2.2.2 _ tw_1_41) rfl (hl.1.trans X.2.2.1.symm) rfl dX2_init_1 (Nat.le_of_ble_eq_true rfl) (Nat.le_of_ble_eq_true rfl) ?_
  refine W.eq (g2 := F0 m 4 ls []) rfl ?_
  refine lv_aload_n hx hb dX2_init_4 rfl (lv_at hl 0 rfl) ?_
  refine lv_sipush (v := nI 144) hx hb dX2_init_5 (by decide) ?_
  refine bw_new (F := 200) (N := 144) X hK hB hsz hS (ent_B0 (by decide) (by decide) rfl (hB0 200 (by decide))) (hL (0, 200) (by decide)) (by decide) (Nat.le_of_ble_eq_true rfl) (Nat.le_of_ble_eq_true rfl) dX2_init_8 (fun H hB hS => ?_)
  refine bw_put kX2 X hK hB hS 0 (by decide) fw_X2_9 (fun _ h => h) (Or.inr ⟨rfl, hin, rfl⟩) (kX2.2.2.1 0 (by decide)) rfl rfl (Nat.le_of_ble_eq_true rfl) dX2_init_10 (fun H locs hB hS => ?_)
  have hB : BW D cI cZ cO [(200, k)] L σ sz 299 2 k [.ref (L 200 k), .null, .null, .null, .null, .int 0, .int 0, .int 0, .int 0, .int 0] _ H := hB
  refine lv_aload_n hx hb dX2_init_13 rfl (lv_at hl 0 rfl) ?_
  refine lv_sipush (v := nI 144) hx hb dX2_init_14 (by decide) ?_
  refine bw_new (F := 201) (N := 144) X hK hB hsz hS (ent_B0 (by decide) (by decide) rfl (hB0 201 (by decide))) (hL (1, 201) (by decide)) (by decide) (Nat.le_of_ble_eq_true rfl) (Nat.le_of_ble_eq_true rfl) dX2_init_17 (fun H hB hS => ?_)
  refine bw_put kX2 X hK hB hS 1 (by decide) fw_X2_15 (fun _ h => h) (Or.inr ⟨rfl, hin, rfl⟩) (kX2.2.2.1 1 (by decide)) rfl rfl (Nat.le_of_ble_eq_true rfl) dX2_init_19 (fun H locs hB hS => ?_)
  have hB : BW D cI cZ cO [(201, k), (200, k)] L σ sz 299 2 k [.ref (L 200 k), .ref (L 201 k), .null, .null, .null, .int 0, .int 0, .int 0, .int 0, .int 0] _ H := hB
  refine lv_aload_n hx hb dX2_init_22 rfl (lv_at hl 0 rfl) ?_
  refine lv_sipush (v := nI 144) hx hb dX2_init_23 (by decide) ?_
  refine bw_new (F := 202) (N := 144) X hK hB hsz hS (ent_B0 (by decide) (by decide) rfl (hB0 202 (by decide))) (hL (2, 202) (by decide)) (by decide) (Nat.le_of_ble_eq_true rfl) (Nat.le_of_ble_eq_true rfl) dX2_init_26 (fun H hB hS => ?_)
  refine bw_put kX2 X hK hB hS 2 (by decide) fw_X2_18 (fun _ h => h) (Or.inr ⟨rfl, hin, rfl⟩) (kX2.2.2.1 2 (by decide)) rfl rfl (Nat.le_of_ble_eq_true rfl) dX2_init_28 (fun H locs hB hS => ?_)
  have hB : BW D cI cZ cO [(202, k), (201, k), (200, k)] L σ sz 299 2 k [.ref (L 200 k), .ref (L 201 k), .ref (L 202 k), .null, .null, .int 0, .int 0, .int 0, .int 0, .int 0] _ H := hB
  refine lv_aload_n hx hb dX2_init_31 rfl (lv_at hl 0 rfl) ?_
  refine lv_sipush (v := nI 144) hx hb dX2_init_32 (by decide) ?_
  refine bw_new (F := 203) (N := 144) X hK hB hsz hS (ent_B0 (by decide) (by decide) rfl (hB0 203 (by decide))) (hL (3, 203) (by decide)) (by decide) (Nat.le_of_ble_eq_true rfl) (Nat.le_of_ble_eq_true rfl) dX2_init_35 (fun H hB hS => ?_)
  refine bw_put kX2 X hK hB hS 3 (by decide) fw_X2_21 (fun _ h => h) (Or.inr ⟨rfl, hin, rfl⟩) (kX2.2.2.1 3 (by decide)) rfl rfl (Nat.le_of_ble_eq_true rfl) dX2_init_37 (fun H locs hB hS => ?_)
  have hB : BW D cI cZ cO [(203, k), (202, k), (201, k), (200, k)] L σ sz 299 2 k [.ref (L 200 k), .ref (L 201 k), .ref (L 202 k), .ref (L 203 k), .null, .int 0, .int 0, .int 0, .int 0, .int 0] _ H := hB
  refine lv_aload_n hx hb dX2_init_40 rfl (lv_at hl 0 rfl) ?_
  refine lv_sipush (v := nI 144) hx hb dX2_init_41 (by decide) ?_
  refine bw_new (F := 204) (N := 144) X hK hB hsz hS (ent_B0 (by decide) (by decide) rfl (hB0 204 (by decide))) (hL (4, 204) (by decide)) (by decide) (Nat.le_of_ble_eq_true rfl) (Nat.le_of_ble_eq_true rfl) dX2_init_44 (fun H hB hS => ?_)
  refine bw_put kX2 X hK hB hS 4 (by decide) fw_X2_24 (fun _ h => h) (Or.inr ⟨rfl, hin, rfl⟩) (kX2.2.2.1 4 (by decide)) rfl rfl (Nat.le_of_ble_eq_true rfl) dX2_init_46 (fun H locs hB hS => ?_)
  have hB : BW D cI cZ cO [(204, k), (203, k), (202, k), (201, k), (200, k)] L σ sz 299 2 k [.ref (L 200 k), .ref (L 201 k), .ref (L 202 k), .ref (L 203 k), .ref (L 204 k), .int 0, .int 0, .int 0, .int 0, .int 0] _ H := hB
  refine lv_aload_n hx hb dX2_init_49 rfl (lv_at hl 0 rfl) ?_
  refine lv_iconst (v := nI 0) hx hb dX2_init_50 (by decide) ?_
  refine bw_put kX2 X hK hB hS 6 (by decide) fw_X2_27 (fun _ h => h) (Or.inl rfl) (kX2.2.2.1 6 (by decide)) rfl rfl (Nat.le_of_ble_eq_true rfl) dX2_init_51 (fun H locs hB hS => ?_)
  have hB : BW D cI cZ cO [(204, k), (203, k), (202, k), (201, k), (200, k)] L σ sz 299 2 k [.ref (L 200 k), .ref (L 201 k), .ref (L 202 k), .ref (L 203 k), .ref (L 204 k), .int 0, .int (nI 0), .int 0, .int 0, .int 0] _ H := hB
  refine lv_aload_n hx hb dX2_init_54 rfl (lv_at hl 0 rfl) ?_
  refine lv_iconst (v := (-1)) hx hb dX2_init_55 (by decide) ?_
  refine bw_put kX2 X hK hB hS 7 (by decide) fw_X2_31 (fun _ h => h) (Or.inl rfl) (kX2.2.2.1 7 (by decide)) rfl rfl (Nat.le_of_ble_eq_true rfl) dX2_init_56 (fun H locs hB hS => ?_)
  have hB : BW D cI cZ cO [(204, k), (203, k), (202, k), (201, k), (200, k)] L σ sz 299 2 k [.ref (L 200 k), .ref (L 201 k), .ref (L 202 k), .ref (L 203 k), .ref (L 204 k), .int 0, .int (nI 0), .int (-1), .int 0, .int 0] _ H := hB
  refine lv_aload_n hx hb dX2_init_59 rfl (lv_at hl 0 rfl) ?_
  refine lv_iconst (v := (-1)) hx hb dX2_init_60 (by decide) ?_
  refine bw_put kX2 X hK hB hS 9 (by decide) fw_X2_34 (fun _ h => h) (Or.inl rfl) (kX2.2.2.1 9 (by decide)) rfl rfl (Nat.le_of_ble_eq_true rfl) dX2_init_61 (fun H locs hB hS => ?_)
  have hB : BW D cI cZ cO [(204, k), (203, k), (202, k), (201, k), (200, k)] L σ sz 299 2 k [.ref (L 200 k), .ref (L 201 k), .ref (L 202 k), .ref (L 203 k), .ref (L 204 k), .int 0, .int (nI 0), .int (-1), .int 0, .int (-1)] _ H := hB
  have hfs : [.ref (L 200 k), .ref (L 201 k), .ref (L 202 k), .ref (L 203 k), .ref (L 204 k), .int 0, .int (nI 0), .int (-1), .int 0, .int (-1)] = ofl L σ 2 k := by
    rw [ofl_2, h205, h206, h207, h208, h209]
    all_goals rfl
  have hG := bw_done rfl hB hfs
  have hA : ∀ q, oN (L 299 k) sz q → oN (L 299 k) sz q := fun _ h => h
  have hG : PW D cI cZ cO (dl [(299, k), (204, k), (203, k), (202, k), (201, k), (200, k)]) L σ (oN (L 299 k) sz) H := hG
  have hA2 : ∀ q, AA (oN (L 299 k) sz) s.heap.size q → oN (L 299 k) sz q := fun q h => h.elim (fun z => z) (fun z => Or.inr (by rw [← hsz]; exact z))
  refine W.widen (k := 5) (n := 720) (by omega) (by omega) ?_
  refine lv_aload_n hx hb dX2_init_64 rfl (lv_at hl 0 rfl) ?_
  refine gt_X2_9 X hK hG (List.mem_of_getElem? (i := 0) rfl) dX2_init_65 ?_
  refine lv_iload_n hx hb dX2_init_68 rfl (lv_at hl 1 rfl) ?_
  refine rv_callSg X hK hG hS hA2 ysJ7_fill_53178 ml_X2_37 [.ref (L 200 k), .int v1] [] (c_fill l L σ _ 200 k 144 v1 (List.mem_of_getElem? (i := 5) rfl) fa_200 rfl (by decide)) rfl hl.1 rfl (Nat.le_of_ble_eq_true rfl) ⟨Nat.le_of_ble_eq_true rfl, Nat.le_of_ble_eq_true rfl⟩ ⟨Nat.le_of_ble_eq_true rfl, Nat.le_of_ble_eq_true rfl⟩ dX2_init_69 (fun H locs hG hS => ?_)
  refine lv_aload_n hx hb dX2_init_72 rfl (lv_at hl 0 rfl) ?_
  refine gt_X2_15 X hK hG (List.mem_of_getElem? (i := 0) rfl) dX2_init_73 ?_
  refine lv_sipush (v := nI 1000) hx hb dX2_init_76 (by decide) ?_
  refine lv_iload_n hx hb dX2_init_79 rfl (lv_at hl 1 rfl) ?_
  refine lv_imul hx hb dX2_init_80 ?_
  refine rv_callSg X hK hG hS hA2 ysJ7_fill_53178 ml_X2_37 [.ref (L 201 k), .int ((nI 1000) * v1)] [] (c_fill l L (m_fill 200 k v1 144 σ) _ 201 k 144 ((nI 1000) * v1) (List.mem_of_getElem? (i := 4) rfl) fa_201 rfl (by decide)) rfl hl.1 rfl (Nat.le_of_ble_eq_true rfl) ⟨Nat.le_of_ble_eq_true rfl, Nat.le_of_ble_eq_true rfl⟩ ⟨Nat.le_of_ble_eq_true rfl, Nat.le_of_ble_eq_true rfl⟩ dX2_init_81 (fun H locs hG hS => ?_)
  refine lv_aload_n hx hb dX2_init_84 rfl (lv_at hl 0 rfl) ?_
  refine gt_X2_18 X hK hG (List.mem_of_getElem? (i := 0) rfl) dX2_init_85 ?_
  refine lv_iconst (v := (-1)) hx hb dX2_init_88 (by decide) ?_
  refine rv_callSg X hK hG hS hA2 ysJ7_fill_53178 ml_X2_37 [.ref (L 202 k), .int (-1)] [] (c_fill l L (m_fill 201 k ((nI 1000) * v1) 144 (m_fill 200 k v1 144 σ)) _ 202 k 144 (-1) (List.mem_of_getElem? (i := 3) rfl) fa_202 rfl (by decide)) rfl hl.1 rfl (Nat.le_of_ble_eq_true rfl) ⟨Nat.le_of_ble_eq_true rfl, Nat.le_of_ble_eq_true rfl⟩ ⟨Nat.le_of_ble_eq_true rfl, Nat.le_of_ble_eq_true rfl⟩ dX2_init_89 (fun H locs hG hS => ?_)
  refine lv_aload_n hx hb dX2_init_92 rfl (lv_at hl 0 rfl) ?_
  refine gt_X2_21 X hK hG (List.mem_of_getElem? (i := 0) rfl) dX2_init_93 ?_
  refine lv_iconst (v := (-1)) hx hb dX2_init_96 (by decide) ?_
  refine rv_callSg X hK hG hS hA2 ysJ7_fill_53178 ml_X2_37 [.ref (L 203 k), .int (-1)] [] (c_fill l L (m_fill 202 k (-1) 144 (m_fill 201 k ((nI 1000) * v1) 144 (m_fill 200 k v1 144 σ))) _ 203 k 144 (-1) (List.mem_of_getElem? (i := 2) rfl) fa_203 rfl (by decide)) rfl hl.1 rfl (Nat.le_of_ble_eq_true rfl) ⟨Nat.le_of_ble_eq_true rfl, Nat.le_of_ble_eq_true rfl⟩ ⟨Nat.le_of_ble_eq_true rfl, Nat.le_of_ble_eq_true rfl⟩ dX2_init_97 (fun H locs hG hS => ?_)
  exact cc_ret hx hb hr hlocks hG trivial hS dX2_init_100
