/-! BUILDING the shop: cells made one after the other, beside the object a -/
def WQ (D : va_G) (ws : List (Nat × va_E)) (a sz : Nat) (H : Heap) : Prop := va_P D vwCl ws H ∧ (ws.map (fun x => x.1)).Pairwise (· < ·) ∧ (∀ x ∈ ws, sz ≤ x.1) ∧ a < sz ∧ sz ≤ H.size
theorem wq_lt {D : va_G} {ws : List (Nat × va_E)} {a sz : Nat} {H : Heap} (h : WQ D ws a sz H) : ∀ x ∈ ws, x.1 < H.size := fun x hx => by
  obtain ⟨i, hi⟩ := List.getElem?_of_mem hx
  exact (h.1 i x hi).lt
theorem wq_keep {D : va_G} {ws : List (Nat × va_E)} {a sz : Nat} {H H1 : Heap} (h : WQ D ws a sz H) (hz : H.size ≤ H1.size) (hq : ∀ q, q < H.size → q ≠ a → H1[q]? = H[q]?) : WQ D ws a sz H1 := by
  refine ⟨fun i x hx => (h.1 i x hx).kept (hq _ ((h.1 i x hx).lt) (fun z => ?_)), h.2.1, h.2.2.1, h.2.2.2.1, Nat.le_trans h.2.2.2.2 hz⟩
  have := h.2.2.1 x (List.mem_of_getElem? hx)
  have := h.2.2.2.1
  omega
theorem wq_app {D : va_G} {ws vs : List (Nat × va_E)} {a sz sz2 a2 : Nat} {H : Heap} (h : WQ D ws a sz H) (g : WQ D vs a2 sz2 H) (hlt : ∀ x ∈ ws, ∀ y ∈ vs, x.1 < y.1) (hs : sz ≤ sz2) : WQ D (ws ++ vs) a sz H := by
  refine ⟨fun i x hx => ?_, ?_, fun x hx => ?_, h.2.2.2.1, h.2.2.2.2⟩
  · by_cases c : i < ws.length
    · rw [List.getElem?_append_left c] at hx
      exact h.1 i x hx
    · rw [List.getElem?_append_right (Nat.not_lt.mp c)] at hx
      exact g.1 _ x hx
  · rw [List.map_append, List.pairwise_append]
    refine ⟨h.2.1, g.2.1, fun u hu v hv => ?_⟩
    obtain ⟨x, hx, rfl⟩ := List.mem_map.mp hu
    obtain ⟨y, hy, rfl⟩ := List.mem_map.mp hv
    exact hlt x hx y hy
  · rcases List.mem_append.mp hx with z | z
    · exact h.2.2.1 x z
    · exact Nat.le_trans hs (g.2.2.1 x z)
theorem wq_one {D : va_G} {b : Nat} {e : va_E} {a sz : Nat} {H : Heap} (hat : va_at D vwCl (b, e) H) (hb : sz ≤ b) (ha : a < sz) : WQ D [(b, e)] a sz H := ⟨va_P1 hat, List.pairwise_singleton _ _, fun x hx => by rw [List.mem_singleton.mp hx]; exact hb, ha, Nat.le_trans hb (Nat.le_of_lt hat.lt)⟩
abbrev eLst (t0 : Nat) : va_E := .inr (0, [.int 0, .ref t0, .int 0])
abbrev eRow (cI : ClassId) (N : Nat) : va_E := .inl (cI, N, .inl (fun _ => 0))
theorem dfs_10 : ∀ j, j < (flds 10).length → defaultValue (tyJx4a65c j) = vp_V (dfs 10) j := fun j hj => by
  have hj : j < 3 := hj
  rcases (by omega : j = 0 ∨ j = 1 ∨ j = 2) with rfl | rfl | rfl <;> rfl
section BQs
variable {D : va_G} {cI cZ cO : ClassId} {t0 mi : Nat} {A : Nat → Prop} {H : Heap} {ws : List (Nat × va_E)} {a sz C : Nat} {fs : List Value}
variable {p : Program} {l : Launch} {e : Env} {R : Room} {s : State} {m : MethodId} {args : Array Value} {below : List Frame} {meth : Method} {c : Code} {locs : List Loc} {cells slots : Nat} {Q : State → Prop}
variable {cc : ByteArray} {pc nL : Nat} {ls : Array Slot} {rest st0 : List Value} {own : String}
theorem q_list (X : CallFix p m c cc nL s args TB own) (hK : KK D cI cZ cO s) (hE : EE t0 mi A s s.heap) (hW : WQ D ws a sz H) (hat : va_at D vwCl (a, .inr (vix C, fs)) H) (hS : va_S A s.heap H locs) (hA : ∀ q, sz ≤ q → A q) {ix ic : Nat} (hl : Cond.classLink own ix RJx4a65c ∈ TB) (hm : Cond.methodLink own ic yJx4a65c_init_da8c8 ∈ TB) (hls : ls.size = nL) (hrm : (rest.map fun v => v.category).sum ≤ 6) (hR : 4 ≤ R.frames ∧ 120 ≤ R.locals) (hc : cells + 1 ≤ R.cells ∧ slots + 3 ≤ R.slots) (d0 : decode cc pc = .ok (.new ix, 3)) (d3 : decode cc (pc + 3) = .ok (.dup, 1)) (d4 : decode cc (pc + 4) = .ok (.invokespecial ic, 3))
    (kk : ∀ (b : Nat) (H1 : Heap) (locs1 : List Loc), WQ D (ws ++ [(b, eLst t0)]) a sz H1 → va_at D vwCl (a, .inr (vix C, fs)) H1 → va_S A s.heap H1 locs1 → W p l e R s m args below meth c H1 locs1 (cells + 1) (slots + 3) Q (F0 m (pc + 7) ls (.ref b :: rest))) : W p l e R s m args below meth c H locs cells slots Q (F0 m pc ls rest) := by
  refine r_new X hK kJx4a65c hl (N := 3) rfl tw_1_43 tw_1_4 hS dfs_10 hc.1 hc.2 d0 (fun H1 hb hz hq hS => ?_)
  refine lv_dup X.1 X.2.1 d3 rfl ?_
  have hsz := hW.2.2.2.2
  have hAA : ∀ x, lA H.size H.size H1.size x → A x := fun x h => h.elim (fun z => hA x (by omega)) (fun h => h.elim (fun z => hA x (by omega)) (fun z => hA x (by omega)))
  refine va_callv (va_runI (As := []) (rest := .ref H.size :: rest) X (c_iarr (t0 := t0) (mi := mi) l H.size H1.size) (yi_cw X.2.2.2.2 tw_1_45 tw_1_4 tw_1_46 hm rfl ⟨by decide +kernel, by decide +kernel, by decide +kernel⟩ rfl rfl ⟨by have := hR.1; show 3 + 1 ≤ _; omega, by have := hR.2; show 8 + (1 + 11) + 70 ≤ _; omega⟩) ⟨lpc_blind, lpc_pre hK ((hE.at hS).narrow hAA) (va_P1 hb) rfl⟩ rfl rfl hls rfl (by show 2 * 0 + ((Value.ref H.size).category + (rest.map fun v => v.category).sum) ≤ 8; have : (Value.ref H.size).category = 1 := rfl; omega) d4 ⟨by omega, by omega⟩) hS (fun x _ h => hAA x h) (fun x h => hAA x h) ?_
  intro u t H2 locs2 ht _ _ hB hz2 hk hS2
  rw [ht] at hB
  have hb2 : va_at D vwCl (H.size, eLst t0) H2 := hB 0 _ rfl
  have hq2 : ∀ q, q < H.size → H2[q]? = H[q]? := fun q h => (hk q (by omega) (fun z => by rcases z with z | z | z <;> omega)).trans (hq q h)
  have ha : a < H.size := by have := hW.2.2.2.1; omega
  exact kk H.size H2 locs2 (wq_app (wq_keep hW (by omega) (fun q h _ => hq2 q h)) (wq_one (a := a) (sz := sz) hb2 hsz hW.2.2.2.1) (fun x hx y hy => by rw [List.mem_singleton.mp hy]; exact wq_lt hW x hx) (Nat.le_refl _)) (hat.kept (hq2 a ha)) hS2
theorem q_row (X : CallFix p m c cc nL s args TB own) (hK : KK D cI cZ cO s) (hW : WQ D ws a sz H) (hat : va_at D vwCl (a, .inr (vix C, fs)) H) (hS : va_S A s.heap H locs) {N : Nat} (hN : N < 100000) (hc : cells + 1 ≤ R.cells ∧ slots + N ≤ R.slots) (d : decode cc pc = .ok (.newarray .int, 2))
    (kk : ∀ (b : Nat) (H1 : Heap) (locs1 : List Loc), WQ D (ws ++ [(b, eRow cI N)]) a sz H1 → va_at D vwCl (a, .inr (vix C, fs)) H1 → va_S A s.heap H1 locs1 → W p l e R s m args below meth c H1 locs1 (cells + 1) (slots + N) Q (F0 m (pc + 2) ls (.ref b :: rest))) : W p l e R s m args below meth c H locs cells slots Q (F0 m pc ls (.int (nI N) :: rest)) := by
  refine va_newaK (atype := .int) X.1 X.2.1 (X.2.2.2.2 _ tw_1_116) rfl d rfl (by rw [show ¬ (nI N < 0) ↔ True from ⟨fun _ => trivial, fun _ => nI_pos (by omega)⟩]; trivial) (nI_clamp (by omega)) (by show N * 4 ≤ _; omega) hc.1 hc.2 rfl (fun H1 cA e1 z1 o1 hAr hNm => ?_)
  have hcI : cA = cI := Option.some.inj (hNm.symm.trans (hK.2 0 (cI, .int) rfl).2)
  subst hcI
  have hsz := hW.2.2.2.2
  have ha : a < H.size := by have := hW.2.2.2.1; omega
  have hb2 : va_at D vwCl (H.size, eRow cA N) H1 := by show H1[H.size]? = some (vp_cell _ _); exact e1
  exact kk H.size H1 locs (wq_app (wq_keep hW (by omega) (fun q h _ => o1 q h)) (wq_one (a := a) (sz := sz) hb2 hsz hW.2.2.2.1) (fun x hx y hy => by rw [List.mem_singleton.mp hy]; exact wq_lt hW x hx) (Nat.le_refl _)) (hat.kept (o1 a ha)) ⟨by rw [z1]; have := hS.1; omega, fun q h1 h2 => (o1 q (by have := hS.1; omega)).trans (hS.2.1 q h1 h2), hS.2.2⟩
theorem q_put {RC : String} {T : u_T} {ty : Nat → FieldType} (kc : KC C RC T ty) (X : CallFix p m c cc nL s args TB own) (hK : KK D cI cZ cO s) (hW : WQ D ws a sz H) (hat : va_at D vwCl (a, .inr (vix C, fs)) H) (hS : va_S A s.heap H locs) (hAa : A a) (f : Nat) (hf : f < (flds C).length) {index : Nat} {ref : String}
    (hlink : Cond.fieldLink own index ref (T f).2.1 (T f).2.2.1 ∈ TB) (hsame : ∀ x, s.fieldFound? (T f).1 (T f).2.1 (T f).2.2.1 = some x → s.fieldFound? ref (T f).2.1 (T f).2.2.1 = some x) (hfin : (T f).2.2.2 = false ∨ ((T f).2.2.2 = true ∧ meth.name = "<init>" ∧ (T f).1 = own)) {tv : FieldType} {v : Value} (hdsc : parseFieldDescriptor (T f).2.2.1 = some tv) (hn : narrow tv v = v) (hfit : fits tv v = true) (hl : f < fs.length) (hdg : decode cc pc = .ok (.putfield index, 3))
    (kk : ∀ (H1 : Heap) (locs1 : List Loc), WQ D ws a sz H1 → va_at D vwCl (a, .inr (vix C, fs.set f v)) H1 → va_S A s.heap H1 locs1 → W p l e R s m args below meth c H1 locs1 cells slots Q (F0 m (pc + 3) ls rest)) : W p l e R s m args below meth c H locs cells slots Q (F0 m pc ls (v :: .ref a :: rest)) := by
  have key : ∀ (H1 : Heap) (locs1 : List Loc), va_at D vwCl (a, .inr (vix C, fs.set f v)) H1 → H1.size = H.size → (∀ q, q ≠ a → H1[q]? = H[q]?) → va_S A s.heap H1 locs1 → W p l e R s m args below meth c H1 locs1 cells slots Q (F0 m (pc + 3) ls rest) := fun H1 locs1 h1 h2 h3 h4 => kk H1 locs1 (wq_keep hW (by omega) (fun q _ h => h3 q h)) h1 h4
  rcases hfin with hf0 | ⟨hf1, hf2, hf3⟩
  · exact pw_putR X hK kc hat hS hAa f hf hlink hsame hf0 hdsc hn hfit hl hdg key
  · exact pw_putF X hK kc hat hS hAa f hf hlink hsame hf1 hf2 hf3 hdsc hn hfit hl hdg key
end BQs
/-- a constructor that makes lists -/
def CPE (D : va_G) (cI cZ cO : ClassId) (t0 mi a C sz : Nat) (av : List Value) : Array Value → State → Prop := va_Pc av (fun U => U.heap.size = sz ∧ KK D cI cZ cO U ∧ va_at D vwCl (a, .inr (vix C, dfs C)) U.heap ∧ EE t0 mi (oN a sz) U U.heap ∧ EX (oN a sz) U U.heap)
theorem cpe_blind {D : va_G} {cI cZ cO : ClassId} {t0 mi a C sz : Nat} {av : List Value} : FrameBlind (CPE D cI cZ cO t0 mi a C sz av) := fun a9 U g mk q => by
  obtain ⟨q0, q1, q2, q3, q4, q5⟩ := q
  exact ⟨q0, q1, va_K.moved (u := U) (U := U.calling g mk a9) (Vm.Alike.refl U.vm) q2, q3, q4.moved (U := U.calling g mk a9) (Vm.Alike.refl U.vm), EX.same (u := U) (U := U.calling g mk a9) rfl q5⟩
theorem cpe_pre {D : va_G} {cI cZ cO : ClassId} {t0 mi a C sz : Nat} {av : List Value} {s : State} {H : Heap} (hK : KK D cI cZ cO s) (hat : va_at D vwCl (a, .inr (vix C, dfs C)) H) (hE : EE t0 mi (oN a sz) s H) (hX : EX (oN a sz) s H) (hsz : H.size = sz) : ∀ U : State, U.heap = H → s.WarmedH U.vm → CPE D cI cZ cO t0 mi a C sz av av.toArray U := fun U hU hW => ⟨rfl, by rw [hU]; exact hsz, va_K.moved hW.alike hK, by rw [hU]; exact hat, by rw [hU]; exact hE.moved hW.alike, by rw [hU]; exact hX.warm hW⟩
theorem ce_of {D : va_G} {cI cZ cO : ClassId} {t0 mi : Nat} {l : Launch} {y : MethodName} {b : ByteArray} {n fr lo mc ms a C sz : Nat} {av : List Value} {Qc : Array Value → State → Outcome → State → Prop} (hy : plainName y.cls = true) (hn : (lg_sl av).length ≤ n)
    (body : ∀ (p : Program) (e : Env) (s : State) (m : MethodId) (below : List Frame) (meth : Method) (c : Code) (ls : Array Slot), CallFix p m c b n s av.toArray TB y.cls → KK D cI cZ cO s → s.heap.size = sz → va_at D vwCl (a, .inr (vix C, dfs C)) s.heap → EE t0 mi (oN a sz) s s.heap → EX (oN a sz) s s.heap → meth.sig.returnType = none → meth.locks = false → meth.name = y.name → lv_has ls n (lv_args 0 av) →
      W p l e { frames := fr, cells := mc, slots := ms, locals := lo } s m av.toArray below meth c s.heap [] 0 0 (MQ below Qc av.toArray s mc ms (oN a sz)) (F0 m 0 ls [])) : Met l y (wM y b n none) { frames := fr, cells := mc, slots := ms, locals := lo } (CPE D cI cZ cO t0 mi a C sz av) Qc mc ms (oN a sz) := by
  refine Met.ofW (cc := b) (maxL := n) (ret := none) hy rfl ?_
  intro p e s m args below meth c s₁ B hml hv
  obtain ⟨rfl, hsz, hK, hat, hE, hX⟩ := hv
  rw [lg_entry_eq]
  have hl := lv_entry av hn
  exact body p e s m below meth c _ ⟨B.exec, B.bytes, hml, findClass_of_methodNamed B.named, wm_hts (atoms_spec (ws := wM y b n none) B.pre)⟩ hK hsz hat hE hX B.returns B.notSynchronized (name_of_methodNamed B.named B.method).1 hl
def CQE (Φ : Heap → Prop) (a sz : Nat) : Array Value → State → Outcome → State → Prop := va_Qv (fun (_ : Unit) => True) (fun _ t => Φ t.heap) (oN a sz)
theorem ce_ret {Φ : Heap → Prop} {p : Program} {l : Launch} {e : Env} {R : Room} {s : State} {m : MethodId} {args : Array Value} {below : List Frame} {meth : Method} {c : Code} {H : Heap} {locs : List Loc} {cells slots mc ms a sz pc : Nat} {cc : ByteArray} {ls : Array Slot} (hx : p.tables.exec = Jvm.exec) (hb : c.code = cc) (hr : meth.sig.returnType = none) (hlocks : meth.locks = false) (hF : Φ H) (hS : va_S (oN a sz) s.heap H locs) (h1 : cells ≤ mc) (h2 : slots ≤ ms) (d : decode cc pc = .ok (.return_, 1)) :
    W p l e R s m args below meth c H locs cells slots (MQ below (CQE Φ a sz) args s mc ms (oN a sz)) (F0 m pc ls []) :=
  W.widen h1 h2 (W.vret hx hb hr (fun t ht hW => ⟨⟨(), rfl, trivial, by show Φ t.heap; rw [ht]; exact hF⟩, hS.F ht⟩) hS.2.2 d hlocks)
