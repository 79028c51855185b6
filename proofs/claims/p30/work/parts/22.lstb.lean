/-! what a list's methods need of the state beside the world: the static empty row, the class objects -/
theorem nw_cast_moved {C T : String} {u U : State} (h : u.vm.Alike U.vm) (hZ : va_Nw (.castable C T) u) : va_Nw (.castable C T) U := va_tabs rfl (rfl : (u.setVm U.vm).vm = U.vm) (by rw [Cond.castable_setVm h]; exact hZ)
def EE (t0 mi : Nat) (A : Nat → Prop) (U : State) (H : Heap) : Prop :=
  va_Z "java/util/ArrayList" "DEFAULTCAPACITY_EMPTY_ELEMENTDATA" "[Ljava/lang/Object;" (.ref t0) A U H ∧ va_T (.object "java/lang/Object") t0 0 (fun _ => .null) A U H ∧ va_AO "java/lang/Object" U ∧ va_Mi "[Ljava/lang/Object;" mi U ∧ va_Dc U ∧ ∀ C ∈ [RX0, RX1, RX2, RX3, RX4, RX5], va_Nw (.castable C "java/lang/Object") U
section EEs
variable {t0 mi : Nat} {A B : Nat → Prop} {u U : State} {H H1 : Heap}
theorem EE.moved (hvm : u.vm.Alike U.vm) (h : EE t0 mi A u H) : EE t0 mi A U H := ⟨h.1.moved hvm, h.2.1.moved hvm, h.2.2.1.moved hvm, h.2.2.2.1.moved hvm, h.2.2.2.2.1.moved hvm, fun C hC => nw_cast_moved hvm (h.2.2.2.2.2 C hC)⟩
theorem EE.kept (h : EE t0 mi A U H) (hq : ∀ a : Nat, a < H.size → ¬ A a → H1[a]? = H[a]?) : EE t0 mi A U H1 := ⟨h.1.kept hq, h.2.1.kept hq, h.2.2⟩
theorem EE.narrow (h : EE t0 mi A U H) (hAB : ∀ q, B q → A q) : EE t0 mi B U H := ⟨h.1.narrow hAB, h.2.1.narrow hAB, h.2.2⟩
theorem EE.at {s : State} {H : Heap} {locs : List Loc} (h : EE t0 mi A s s.heap) (hS : va_S A s.heap H locs) : EE t0 mi A s H := h.kept hS.2.1
end EEs
/-! a list's small world: a the list, b its row -/
section LSs
variable {D : va_G} {cI cZ cO : ClassId} {t0 mi : Nat} {A : Nat → Prop} {Φ Ψ : Heap → Prop}
abbrev lwO (a : Nat) (m : Int32) (b n : Nat) : Nat × va_E := (a, .inr (0, [.int m, .ref b, .int (nI n)]))
abbrev lwA (cO : ClassId) (b cap : Nat) (f : Nat → Option Nat) : Nat × va_E := (b, .inl (cO, cap, .inr (.inr (.inr (.inr f)))))
abbrev lA (a b sz : Nat) : Nat → Prop := fun q => q = a ∨ q = b ∨ sz ≤ q
def LPc (D : va_G) (cI cZ cO : ClassId) (t0 mi : Nat) (A : Nat → Prop) (sz : Nat) (av : List Value) (Φ : Heap → Prop) : Array Value → State → Prop := va_Pc av (fun U => U.heap.size = sz ∧ KK D cI cZ cO U ∧ EE t0 mi A U U.heap ∧ Φ U.heap)
theorem lpc_blind {sz : Nat} {av : List Value} : FrameBlind (LPc D cI cZ cO t0 mi A sz av Φ) := fun a U g mk q => by
  obtain ⟨q0, q1, q2, q3, q4⟩ := q
  exact ⟨q0, q1, va_K.moved (u := U) (U := U.calling g mk a) (Vm.Alike.refl U.vm) q2, q3.moved (U := U.calling g mk a) (Vm.Alike.refl U.vm), q4⟩
def LQi (r : Int32) (Ψ : Heap → Prop) (A : Nat → Prop) : Array Value → State → Outcome → State → Prop := va_Qi (fun x (_ : Unit) => x = r) (fun _ t => Ψ t.heap) A
def LQv (Ψ : Heap → Prop) (A : Nat → Prop) : Array Value → State → Outcome → State → Prop := va_Qv (fun (_ : Unit) => True) (fun _ t => Ψ t.heap) A
def LQr (Ψ : Nat → Heap → Prop) (A : Nat → Prop) : Array Value → State → Outcome → State → Prop := va_Qr (fun (_ : Unit) => True) (fun _ a t => Ψ a t.heap) A
theorem lm_of {l : Launch} {y : MethodName} {b : ByteArray} {n : Nat} {ret : Option FieldType} {rm : Room} {mc ms sz : Nat} {av : List Value} {Qc : Array Value → State → Outcome → State → Prop} (hy : plainName y.cls = true) (hn : (lg_sl av).length ≤ n)
    (body : ∀ (p : Program) (e : Env) (s : State) (m : MethodId) (below : List Frame) (meth : Method) (c : Code) (ls : Array Slot), CallFix p m c b n s av.toArray TB y.cls → KK D cI cZ cO s → s.heap.size = sz → EE t0 mi A s s.heap → Φ s.heap → meth.sig.returnType = ret → meth.locks = false → lv_has ls n (lv_args 0 av) →
      W p l e rm s m av.toArray below meth c s.heap [] 0 0 (MQ below Qc av.toArray s mc ms A) (F0 m 0 ls [])) : Met l y (wM y b n ret) rm (LPc D cI cZ cO t0 mi A sz av Φ) Qc mc ms A := by
  refine Met.ofW (cc := b) (maxL := n) (ret := ret) hy rfl ?_
  intro p e s m args below meth c s₁ B hml hv
  obtain ⟨rfl, hsz, hK, hE, hF⟩ := hv
  rw [lg_entry_eq]
  have hl := lv_entry av hn
  exact body p e s m below meth c _ ⟨B.exec, B.bytes, hml, findClass_of_methodNamed B.named, wm_hts (atoms_spec (ws := wM y b n ret) B.pre)⟩ hK hsz hE hF B.returns B.notSynchronized hl
variable {p : Program} {l : Launch} {e : Env} {R : Room} {s : State} {m : MethodId} {args : Array Value} {below : List Frame} {meth : Method} {c : Code} {H H0 : Heap} {locs : List Loc} {cells slots : Nat} {Q : State → Prop}
variable {cc : ByteArray} {pc nL : Nat} {ls : Array Slot} {rest st0 : List Value} {own : String}
theorem lpc_pre {sz : Nat} {av : List Value} (hK : KK D cI cZ cO s) (hE : EE t0 mi A s H) (hF : Φ H) (hsz : H.size = sz) : ∀ U : State, U.heap = H → s.WarmedH U.vm → LPc D cI cZ cO t0 mi A sz av Φ av.toArray U := fun U hU hW => ⟨rfl, by rw [hU]; exact hsz, va_K.moved hW.alike hK, by rw [hU]; exact hE.moved hW.alike, by rw [hU]; exact hF⟩
theorem lv_ret {mc ms : Nat} (hx : p.tables.exec = Jvm.exec) (hb : c.code = cc) (hr : meth.sig.returnType = none) (hlocks : meth.locks = false) (hS : va_S A s.heap H locs) (hF : Ψ H) (hc : cells = mc) (hs : slots = ms) (d : decode cc pc = .ok (.return_, 1)) :
    W p l e R s m args below meth c H locs cells slots (MQ below (LQv Ψ A) args s mc ms A) (F0 m pc ls []) := by
  subst hc hs
  exact W.vret hx hb hr (fun t ht hW => ⟨⟨(), rfl, trivial, by show Ψ t.heap; rw [ht]; exact hF⟩, hS.F ht⟩) hS.2.2 d hlocks
theorem li_ret {mc ms : Nat} {v r : Int32} {ty : FieldType} (hx : p.tables.exec = Jvm.exec) (hb : c.code = cc) (hr : meth.sig.returnType = some ty) (hn : narrow ty (.int v) = .int v) (hlocks : meth.locks = false) (hS : va_S A s.heap H locs) (hv : v = r) (hF : Ψ H) (hc : cells = mc) (hs : slots = ms) (d : decode cc pc = .ok (.ireturn, 1)) :
    W p l e R s m args below meth c H locs cells slots (MQ below (LQi r Ψ A) args s mc ms A) (F0 m pc ls [.int v]) := by
  subst hc hs
  exact W.zret hx hb hr hn (fun t ht hW => ⟨⟨v, (), rfl, hv, by show Ψ t.heap; rw [ht]; exact hF⟩, hS.F ht⟩) hS.2.2 d hlocks
theorem lr_ret {mc ms a : Nat} {Ψ : Nat → Heap → Prop} {ty : FieldType} (hx : p.tables.exec = Jvm.exec) (hb : c.code = cc) (hr : meth.sig.returnType = some ty) (hty : (∃ n, ty = .object n) ∨ ∃ t, ty = .array t) (hlocks : meth.locks = false) (hS : va_S A s.heap H locs) (hF : Ψ a H) (hc : cells = mc) (hs : slots = ms) (d : decode cc pc = .ok (.areturn, 1)) :
    W p l e R s m args below meth c H locs cells slots (MQ below (LQr Ψ A) args s mc ms A) (F0 m pc ls [.ref a]) := by
  subst hc hs
  exact W.aret hx hb hr hty (Or.inr ⟨a, rfl⟩) (fun t ht hW => ⟨⟨(), a, rfl, trivial, by show Ψ a t.heap; rw [ht]; exact hF⟩, hS.F ht⟩) hS.2.2 d hlocks
/-- the list's fields -/
theorem l_get {ws : va_W} {a : Nat} {fs : List Value} (X : CallFix p m c cc nL s args TB RJx4a65c) (hK : KK D cI cZ cO s) (hP : va_P D vwCl ws H) (q0 : Nat) (he : ws[q0]? = some (a, .inr (0, fs))) (f : Nat) (hf : f < 3) {idx : Nat} (hl : Cond.fieldLink RJx4a65c idx "java/util/ArrayList" (TJx4a65c f).2.1 (TJx4a65c f).2.2.1 ∈ TB) (hsame : ∀ x, s.fieldFound? (TJx4a65c f).1 (TJx4a65c f).2.1 (TJx4a65c f).2.2.1 = some x → s.fieldFound? "java/util/ArrayList" (TJx4a65c f).2.1 (TJx4a65c f).2.2.1 = some x) {v : Value} (hv : fs[f]? = some v) (d : decode cc pc = .ok (.getfield idx, 3))
    (kk : W p l e R s m args below meth c H locs cells slots Q (F0 m (pc + 3) ls (v :: rest))) : W p l e R s m args below meth c H locs cells slots Q (F0 m pc ls (.ref a :: rest)) :=
  va_get X.1 X.2.1 X.2.2.2.2 kJx4a65c.2.1 X.2.2.2.1 hK hP q0 he kJx4a65c.1 f hf (X.2.2.2.2 _ hl) hsame hv d kk
theorem l_put {ws : va_W} {a : Nat} {fs : List Value} (X : CallFix p m c cc nL s args TB RJx4a65c) (hK : KK D cI cZ cO s) (hP : va_P D vwCl ws H) (hD : va_D A ws) (hS : va_S A H0 H locs) (q0 : Nat) (he : ws[q0]? = some (a, .inr (0, fs))) (f : Nat) (hf : f < 3) {idx : Nat} (hl : Cond.fieldLink RJx4a65c idx "java/util/ArrayList" (TJx4a65c f).2.1 (TJx4a65c f).2.2.1 ∈ TB) (hsame : ∀ x, s.fieldFound? (TJx4a65c f).1 (TJx4a65c f).2.1 (TJx4a65c f).2.2.1 = some x → s.fieldFound? "java/util/ArrayList" (TJx4a65c f).2.1 (TJx4a65c f).2.2.1 = some x) (hfin : (TJx4a65c f).2.2.2 = false) {v : Value} (hn : narrow (tyJx4a65c f) v = v) (hfit : fits (tyJx4a65c f) v = true) (hfl : f < fs.length) (d : decode cc pc = .ok (.putfield idx, 3))
    (kk : ∀ (H1 : Heap) (locs1 : List Loc), va_P D vwCl (ws.set q0 (a, .inr (0, fs.set f v))) H1 → va_D A (ws.set q0 (a, .inr (0, fs.set f v))) → va_S A H0 H1 locs1 → W p l e R s m args below meth c H1 locs1 cells slots Q (F0 m (pc + 3) ls rest)) : W p l e R s m args below meth c H locs cells slots Q (F0 m pc ls (v :: .ref a :: rest)) :=
  va_put X.1 X.2.1 X.2.2.2.2 kJx4a65c.2.1 tyJx4a65c kJx4a65c.2.2.1 kJx4a65c.2.2.2 X.2.2.2.1 hK hP hD hS q0 he kJx4a65c.1 f hf (X.2.2.2.2 _ hl) hsame hfin (kJx4a65c.2.2.1 f hf) hn hfit hfl d kk
theorem ld2 {a b : Nat} {e1 e2 : va_E} (h : a ≠ b) (ha : A a) (hb : A b) : va_D A [(a, e1), (b, e2)] := by
  refine ⟨fun i j x y hi hj hxy => ?_, fun k x hk => ?_⟩
  · match i, j, hi, hj with
    | 0, 0, _, _ => rfl
    | 1, 1, _, _ => rfl
    | 0, 1, hi, hj => cases hi; cases hj; exact absurd hxy h
    | 1, 0, hi, hj => cases hi; cases hj; exact absurd hxy.symm h
  · match k, hk with
    | 0, hk => cases hk; exact ha
    | 1, hk => cases hk; exact hb
theorem ld1 {a : Nat} {e1 : va_E} (ha : A a) : va_D A [(a, e1)] := by
  refine ⟨fun i j x y hi hj hxy => ?_, fun k x hk => ?_⟩
  · match i, j, hi, hj with
    | 0, 0, _, _ => rfl
  · match k, hk with
    | 0, hk => cases hk; exact ha
theorem el_any {q ci : Nat} {vs : List Value} {r : vw_C} (hK : KK D cI cZ cO s) (hE : EE t0 mi A s H0) (hc : vwCl[ci]? = some r) (hr : r.1 ∈ [RX0, RX1, RX2, RX3, RX4, RX5]) (h : va_at D vwCl (q, .inr (ci, vs)) H) : va_Any "java/lang/Object" s H q :=
  va_rAny hK (va_P1 h) (q0 := 0) rfl hc (fun comp c0 h1 h2 => by
    obtain ⟨c1, t1, f1, f2, f3⟩ := Cond.castable_spec (va_Nw.use (A := #[]) rfl (hE.2.2.2.2.2 r.1 hr))
    cases h2.symm.trans f1
    cases h1.symm.trans f2
    exact f3)
theorem el_at {q ci a b sz : Nat} {vs : List Value} (hsz : s.heap.size = sz) (hS : va_S (lA a b sz) s.heap H locs) (h1 : q ≠ a) (h2 : q ≠ b) (h : va_at D vwCl (q, .inr (ci, vs)) s.heap) : va_at D vwCl (q, .inr (ci, vs)) H :=
  h.kept (hS.2.1 q h.lt (fun z => z.elim h1 (fun z => z.elim h2 (fun z => absurd h.lt (by rw [hsz]; exact Nat.not_lt.mpr z)))))
end LSs
set_option maxHeartbeats 1000000 in
/-- add(e, row, n): there is room -/
theorem c_add3r {D : va_G} {cI cZ cO : ClassId} {t0 mi : Nat} (l : Launch) (a b q n cap ci sz : Nat) (m : Int32) (f : Nat → Option Nat) (vs : List Value) (r : vw_C) (hc : vwCl[ci]? = some r) (hr6 : r.1 ∈ [RX0, RX1, RX2, RX3, RX4, RX5]) (hn : n < cap) (h5 : cap < 100000) :
    Met l yJx4a65c_add_72be8 (wM yJx4a65c_add_72be8 cJx4a65c_add_72be8 4 none) { frames := 0, cells := 0, slots := 0, locals := 0 } (LPc D cI cZ cO t0 mi (lA a b sz) sz [.ref a, .ref q, .ref b, .int (nI n)] (fun H => va_P D vwCl [lwO a m b n, lwA cO b cap f] H ∧ a ≠ b ∧ q ≠ a ∧ q ≠ b ∧ va_at D vwCl (q, .inr (ci, vs)) H))
      (LQv (fun H => va_P D vwCl [lwO a m b (n + 1), lwA cO b cap (va_up f n (some q))] H) (lA a b sz)) 0 0 (lA a b sz) := by
  refine lm_of rfl (Nat.le_of_ble_eq_true rfl) ?_
  intro p e s m9 below meth c ls X hK hsz hE hF hr hlocks hl
  have X : CallFix p m9 c cJx4a65c_add_72be8 4 s _ TB RJx4a65c := X
  have hx := X.1
  have hb := X.2.1
  obtain ⟨hP, hab, hqa, hqb, hel⟩ := hF
  have hS : va_S (lA a b sz) s.heap s.heap [] := va_S.rf
  have hl : lv_has ls 4 [(0, .ref a), (1, .ref q), (2, .ref b), (3, .int (nI n))] := hl
  have hD : va_D (lA a b sz) [lwO a m b n, lwA cO b cap f] := ld2 hab (Or.inl rfl) (Or.inr (Or.inl rfl))
  refine lv_iload_n hx hb dJx4a65c_add_72be8_0 rfl (lv_at hl 3 rfl) ?_
  refine lv_aload_n hx hb dJx4a65c_add_72be8_1 rfl (lv_at hl 2 rfl) ?_
  refine va_alen hx hb hK hP 1 2 rfl rfl (v := nI cap) rfl dJx4a65c_add_72be8_2 ?_
  refine r_icmp_neN (tgt := 11) hx hb dJx4a65c_add_72be8_3 (by decide) (by omega) (by omega) (fun c_3 => ?_) (fun c_3 => absurd c_3 (by omega))
  refine lv_aload_n hx hb dJx4a65c_add_72be8_11 rfl (lv_at hl 2 rfl) ?_
  refine lv_iload_n hx hb dJx4a65c_add_72be8_12 rfl (lv_at hl 3 rfl) ?_
  refine lv_aload_n hx hb dJx4a65c_add_72be8_13 rfl (lv_at hl 1 rfl) ?_
  refine va_astqM hx hb hK hP hD hS 1 2 rfl rfl (el_any hK hE hc hr6 hel) (vp_in_nI hn (by omega)) dJx4a65c_add_72be8_14 (fun H locs hP hD hS => ?_)
  rw [nI_clamp (by omega)] at hP hD
  have hP : va_P D vwCl [lwO a m b n, lwA cO b cap (va_up f n (some q))] H := hP
  refine lv_aload_n hx hb dJx4a65c_add_72be8_15 rfl (lv_at hl 0 rfl) ?_
  refine lv_iload_n hx hb dJx4a65c_add_72be8_16 rfl (lv_at hl 3 rfl) ?_
  refine lv_iconst (v := nI 1) hx hb dJx4a65c_add_72be8_17 (by decide) ?_
  refine r_addN hx hb dJx4a65c_add_72be8_18 ?_
  refine l_put X hK hP hD hS 0 rfl 2 (by decide) fw_Jx4a65c_48 (fun _ h => h) rfl rfl rfl (Nat.le_of_ble_eq_true rfl) dJx4a65c_add_72be8_19 (fun H locs hP hD hS => ?_)
  exact lv_ret hx hb hr hlocks hS hP rfl rfl dJx4a65c_add_72be8_22
set_option maxHeartbeats 1000000 in
/-- add(e): there is room -/
theorem c_addr {D : va_G} {cI cZ cO : ClassId} {t0 mi : Nat} (l : Launch) (a b q n cap ci sz : Nat) (m : Int32) (f : Nat → Option Nat) (vs : List Value) (r : vw_C) (hc : vwCl[ci]? = some r) (hr6 : r.1 ∈ [RX0, RX1, RX2, RX3, RX4, RX5]) (hn : n < cap) (h5 : cap < 100000) :
    Met l yJx4a65c_add_9ea2d (wM yJx4a65c_add_9ea2d cJx4a65c_add_9ea2d 2 (some FieldType.boolean)) { frames := 1, cells := 0, slots := 0, locals := 23 } (LPc D cI cZ cO t0 mi (lA a b sz) sz [.ref a, .ref q] (fun H => va_P D vwCl [lwO a m b n, lwA cO b cap f] H ∧ a ≠ b ∧ q ≠ a ∧ q ≠ b ∧ va_at D vwCl (q, .inr (ci, vs)) H))
      (LQi 1 (fun H => va_P D vwCl [lwO a (m + nI 1) b (n + 1), lwA cO b cap (va_up f n (some q))] H) (lA a b sz)) 0 0 (lA a b sz) := by
  refine lm_of rfl (Nat.le_of_ble_eq_true rfl) ?_
  intro p e s m9 below meth c ls X hK hsz hE hF hr hlocks hl
  have X : CallFix p m9 c cJx4a65c_add_9ea2d 2 s _ TB RJx4a65c := X
  have hx := X.1
  have hb := X.2.1
  obtain ⟨hP, hab, hqa, hqb, hel⟩ := hF
  have hS : va_S (lA a b sz) s.heap s.heap [] := va_S.rf
  have hl : lv_has ls 2 [(0, .ref a), (1, .ref q)] := hl
  have hD : va_D (lA a b sz) [lwO a m b n, lwA cO b cap f] := ld2 hab (Or.inl rfl) (Or.inr (Or.inl rfl))
  refine lv_aload_n hx hb dJx4a65c_add_9ea2d_0 rfl (lv_at hl 0 rfl) ?_
  refine lv_dup hx hb dJx4a65c_add_9ea2d_1 rfl ?_
  refine l_get X hK hP 0 rfl 0 (by decide) fw_Jx4a65c_63 (u_same (X.2.2.2.2 _ tw_1_60)) rfl dJx4a65c_add_9ea2d_2 ?_
  refine lv_iconst (v := nI 1) hx hb dJx4a65c_add_9ea2d_5 (by decide) ?_
  refine lv_iadd hx hb dJx4a65c_add_9ea2d_6 ?_
  refine l_put X hK hP hD hS 0 rfl 0 (by decide) fw_Jx4a65c_63 (u_same (X.2.2.2.2 _ tw_1_60)) rfl rfl rfl (Nat.le_of_ble_eq_true rfl) dJx4a65c_add_9ea2d_7 (fun H locs hP hD hS => ?_)
  have hP : va_P D vwCl [lwO a (m + nI 1) b n, lwA cO b cap f] H := hP
  refine lv_aload_n hx hb dJx4a65c_add_9ea2d_10 rfl (lv_at hl 0 rfl) ?_
  refine lv_aload_n hx hb dJx4a65c_add_9ea2d_11 rfl (lv_at hl 1 rfl) ?_
  refine lv_aload_n hx hb dJx4a65c_add_9ea2d_12 rfl (lv_at hl 0 rfl) ?_
  refine l_get X hK hP 0 rfl 1 (by decide) fw_Jx4a65c_9 (fun _ h => h) rfl dJx4a65c_add_9ea2d_13 ?_
  refine lv_aload_n hx hb dJx4a65c_add_9ea2d_16 rfl (lv_at hl 0 rfl) ?_
  refine l_get X hK hP 0 rfl 2 (by decide) fw_Jx4a65c_48 (fun _ h => h) rfl dJx4a65c_add_9ea2d_17 ?_
  have hle : sz ≤ H.size := by rw [← hsz]; exact hS.1
  have hAA : ∀ x, lA a b H.size x → lA a b sz x := fun x h => h.imp (fun z => z) (fun h => h.imp (fun z => z) (fun z => Nat.le_trans hle z))
  refine va_callv (va_runV (As := [.ref q, .ref b, .int (nI n)]) (rest := []) X (c_add3r l a b q n cap ci H.size (m + nI 1) f vs r hc hr6 hn h5) (yv_cw X.2.2.2.2 yvJx4a65c_add_72be8 ml_Jx4a65c_131 rfl rfl ⟨Nat.le_of_ble_eq_true rfl, Nat.le_of_ble_eq_true rfl⟩) ⟨lpc_blind, va_recv hK hP kJx4a65c.1 (q0 := 0) rfl, lpc_pre hK ((hE.at hS).narrow hAA) ⟨hP, hab, hqa, hqb, el_at hsz hS hqa hqb hel⟩ rfl⟩ rfl rfl hl.1 rfl (lv_room (Nat.le_of_ble_eq_true rfl)) dJx4a65c_add_9ea2d_20 ⟨Nat.le_refl _, Nat.le_refl _⟩) hS (fun x _ h => hAA x h) (fun x h => hAA x h) ?_
  intro u t H1 locs1 ht _ _ hB _ _ hS
  rw [ht] at hB
  refine lv_iconst (v := nI 1) hx hb dJx4a65c_add_9ea2d_23 (by decide) ?_
  exact li_ret hx hb hr rfl hlocks hS rfl hB rfl rfl dJx4a65c_add_9ea2d_24
