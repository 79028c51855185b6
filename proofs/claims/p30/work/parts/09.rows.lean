/-! ROWS over numbers N: what a number answers, as a Nat -/
section RN
variable {p : Program} {l : Launch} {e : Env} {R : Room} {s : State} {m : MethodId} {args : Array Value} {below : List Frame} {meth : Method} {c : Code} {H H0 : Heap} {locs : List Loc} {cells slots : Nat} {Q : State → Prop}
variable {cc : ByteArray} {pc : Nat} {ls : Array Slot} {rest : List Value}
def b2i (P : Prop) [Decidable P] : Int32 := if P then nI 1 else nI 0
theorem b2i_t {P : Prop} [Decidable P] (h : P) : b2i P = nI 1 := if_pos h
theorem b2i_f {P : Prop} [Decidable P] (h : ¬ P) : b2i P = nI 0 := if_neg h
theorem b2i_0 {P : Prop} [Decidable P] : b2i P = 0 ↔ ¬ P := by
  by_cases h : P
  · rw [b2i_t h]; exact ⟨fun z => absurd z (by decide), fun z => absurd h z⟩
  · rw [b2i_f h]; exact ⟨fun _ => h, fun _ => rfl⟩
theorem b2i_z {P : Prop} [Decidable P] : narrow .boolean (.int (b2i P)) = .int (b2i P) := by
  by_cases h : P
  · rw [b2i_t h]; rfl
  · rw [b2i_f h]; rfl
theorem b2i_c {P Q : Prop} [Decidable P] [Decidable Q] (h : P ↔ Q) : b2i P = b2i Q := by
  by_cases hp : P
  · rw [b2i_t hp, b2i_t (h.mp hp)]
  · rw [b2i_f hp, b2i_f (fun z => hp (h.mpr z))]
theorem b2i_01 {P : Prop} [Decidable P] : b2i P = 0 ∨ b2i P = 1 := by
  by_cases h : P
  · exact Or.inr (b2i_t h)
  · exact Or.inl (b2i_f h)
theorem r_addN (hx : p.tables.exec = Jvm.exec) (hb : c.code = cc) {a b : Nat} (d : decode cc pc = .ok (.iadd, 1)) (k : W p l e R s m args below meth c H locs cells slots Q (F0 m (pc + 1) ls (.int (nI (a + b)) :: rest))) : W p l e R s m args below meth c H locs cells slots Q (F0 m pc ls (.int (nI b) :: .int (nI a) :: rest)) := lv_iadd hx hb d (by rw [nI_add a b]; exact k)
theorem r_mulN (hx : p.tables.exec = Jvm.exec) (hb : c.code = cc) {a b : Nat} (d : decode cc pc = .ok (.imul, 1)) (k : W p l e R s m args below meth c H locs cells slots Q (F0 m (pc + 1) ls (.int (nI (a * b)) :: rest))) : W p l e R s m args below meth c H locs cells slots Q (F0 m pc ls (.int (nI b) :: .int (nI a) :: rest)) := lv_imul hx hb d (by rw [pk_mul a b]; exact k)
theorem r_subN (hx : p.tables.exec = Jvm.exec) (hb : c.code = cc) {a b : Nat} (h : b ≤ a) (d : decode cc pc = .ok (.isub, 1)) (k : W p l e R s m args below meth c H locs cells slots Q (F0 m (pc + 1) ls (.int (nI (a - b)) :: rest))) : W p l e R s m args below meth c H locs cells slots Q (F0 m pc ls (.int (nI b) :: .int (nI a) :: rest)) := lv_isub hx hb d (by rw [pk_sub h]; exact k)
theorem r_divN (hx : p.tables.exec = Jvm.exec) (hb : c.code = cc) {a b : Nat} (ha : a < 2147483648) (h0 : 0 < b) (h2 : b < 2147483648) (d : decode cc pc = .ok (.idiv, 1)) (k : W p l e R s m args below meth c H locs cells slots Q (F0 m (pc + 1) ls (.int (nI (a / b)) :: rest))) : W p l e R s m args below meth c H locs cells slots Q (F0 m pc ls (.int (nI b) :: .int (nI a) :: rest)) := lv_idiv hx hb d (nI_ne0 h0 h2) (by rw [pk_div ha h0 h2]; exact k)
theorem r_remN (hx : p.tables.exec = Jvm.exec) (hb : c.code = cc) {a b : Nat} (ha : a < 2147483648) (h0 : 0 < b) (h2 : b < 2147483648) (d : decode cc pc = .ok (.irem, 1)) (k : W p l e R s m args below meth c H locs cells slots Q (F0 m (pc + 1) ls (.int (nI (a % b)) :: rest))) : W p l e R s m args below meth c H locs cells slots Q (F0 m pc ls (.int (nI b) :: .int (nI a) :: rest)) := lv_irem hx hb d (nI_ne0 h0 h2) (by rw [pk_rem ha h0 h2]; exact k)
theorem r_top {x y : Int32} (h : x = y) (k : W p l e R s m args below meth c H locs cells slots Q (F0 m pc ls (.int y :: rest))) : W p l e R s m args below meth c H locs cells slots Q (F0 m pc ls (.int x :: rest)) := by rw [h]; exact k
theorem r_icmp_eqN (hx : p.tables.exec = Jvm.exec) (hb : c.code = cc) {a b : Nat} {off : Int} {tgt : Nat} (d : decode cc pc = .ok (.if_icmp .eq off, 3)) (ht : (pc : Int) + off = (tgt : Int)) (ha : a < 2147483648) (h2 : b < 2147483648) (kt : a = b → W p l e R s m args below meth c H locs cells slots Q (F0 m tgt ls rest)) (kf : ¬ a = b → W p l e R s m args below meth c H locs cells slots Q (F0 m (pc + 3) ls rest)) : W p l e R s m args below meth c H locs cells slots Q (F0 m pc ls (.int (nI b) :: .int (nI a) :: rest)) := lv_icmp_eq hx hb d ht (fun z => kt ((nI_eq ha h2).mp z)) (fun z => kf (fun q => z ((nI_eq ha h2).mpr q)))
theorem r_icmp_neN (hx : p.tables.exec = Jvm.exec) (hb : c.code = cc) {a b : Nat} {off : Int} {tgt : Nat} (d : decode cc pc = .ok (.if_icmp .ne off, 3)) (ht : (pc : Int) + off = (tgt : Int)) (ha : a < 2147483648) (h2 : b < 2147483648) (kt : ¬ a = b → W p l e R s m args below meth c H locs cells slots Q (F0 m tgt ls rest)) (kf : a = b → W p l e R s m args below meth c H locs cells slots Q (F0 m (pc + 3) ls rest)) : W p l e R s m args below meth c H locs cells slots Q (F0 m pc ls (.int (nI b) :: .int (nI a) :: rest)) := lv_icmp_ne hx hb d ht (fun z => kt (fun q => z ((nI_eq ha h2).mpr q))) (fun z => kf ((nI_eq ha h2).mp z))
theorem r_icmp_ltN (hx : p.tables.exec = Jvm.exec) (hb : c.code = cc) {a b : Nat} {off : Int} {tgt : Nat} (d : decode cc pc = .ok (.if_icmp .lt off, 3)) (ht : (pc : Int) + off = (tgt : Int)) (ha : a < 2147483648) (h2 : b < 2147483648) (kt : a < b → W p l e R s m args below meth c H locs cells slots Q (F0 m tgt ls rest)) (kf : b ≤ a → W p l e R s m args below meth c H locs cells slots Q (F0 m (pc + 3) ls rest)) : W p l e R s m args below meth c H locs cells slots Q (F0 m pc ls (.int (nI b) :: .int (nI a) :: rest)) := lv_icmp_lt hx hb d ht (fun z => kt ((nI_ltI ha h2).mp z)) (fun z => kf (Nat.not_lt.mp (fun q => z ((nI_ltI ha h2).mpr q))))
theorem r_icmp_geN (hx : p.tables.exec = Jvm.exec) (hb : c.code = cc) {a b : Nat} {off : Int} {tgt : Nat} (d : decode cc pc = .ok (.if_icmp .ge off, 3)) (ht : (pc : Int) + off = (tgt : Int)) (ha : a < 2147483648) (h2 : b < 2147483648) (kt : b ≤ a → W p l e R s m args below meth c H locs cells slots Q (F0 m tgt ls rest)) (kf : a < b → W p l e R s m args below meth c H locs cells slots Q (F0 m (pc + 3) ls rest)) : W p l e R s m args below meth c H locs cells slots Q (F0 m pc ls (.int (nI b) :: .int (nI a) :: rest)) := lv_icmp_ge hx hb d ht (fun z => kt ((nI_leI h2 ha).mp z)) (fun z => kf (Nat.not_le.mp (fun q => z ((nI_leI h2 ha).mpr q))))
theorem r_icmp_gtN (hx : p.tables.exec = Jvm.exec) (hb : c.code = cc) {a b : Nat} {off : Int} {tgt : Nat} (d : decode cc pc = .ok (.if_icmp .gt off, 3)) (ht : (pc : Int) + off = (tgt : Int)) (ha : a < 2147483648) (h2 : b < 2147483648) (kt : b < a → W p l e R s m args below meth c H locs cells slots Q (F0 m tgt ls rest)) (kf : a ≤ b → W p l e R s m args below meth c H locs cells slots Q (F0 m (pc + 3) ls rest)) : W p l e R s m args below meth c H locs cells slots Q (F0 m pc ls (.int (nI b) :: .int (nI a) :: rest)) := lv_icmp_gt hx hb d ht (fun z => kt ((nI_ltI h2 ha).mp z)) (fun z => kf (Nat.not_lt.mp (fun q => z ((nI_ltI h2 ha).mpr q))))
theorem r_icmp_leN (hx : p.tables.exec = Jvm.exec) (hb : c.code = cc) {a b : Nat} {off : Int} {tgt : Nat} (d : decode cc pc = .ok (.if_icmp .le off, 3)) (ht : (pc : Int) + off = (tgt : Int)) (ha : a < 2147483648) (h2 : b < 2147483648) (kt : a ≤ b → W p l e R s m args below meth c H locs cells slots Q (F0 m tgt ls rest)) (kf : b < a → W p l e R s m args below meth c H locs cells slots Q (F0 m (pc + 3) ls rest)) : W p l e R s m args below meth c H locs cells slots Q (F0 m pc ls (.int (nI b) :: .int (nI a) :: rest)) := lv_icmp_le hx hb d ht (fun z => kt ((nI_leI ha h2).mp z)) (fun z => kf (Nat.not_le.mp (fun q => z ((nI_leI ha h2).mpr q))))
theorem r_if_eqN (hx : p.tables.exec = Jvm.exec) (hb : c.code = cc) {a : Nat} {off : Int} {tgt : Nat} (d : decode cc pc = .ok (.ifCond .eq off, 3)) (ht : (pc : Int) + off = (tgt : Int)) (ha : a < 2147483648) (kt : a = 0 → W p l e R s m args below meth c H locs cells slots Q (F0 m tgt ls rest)) (kf : ¬ a = 0 → W p l e R s m args below meth c H locs cells slots Q (F0 m (pc + 3) ls rest)) : W p l e R s m args below meth c H locs cells slots Q (F0 m pc ls (.int (nI a) :: rest)) := lv_if_eq hx hb d ht (fun z => kt (by rw [← nI_0] at z; exact (nI_eq ha (by decide)).mp z)) (fun z => kf (fun q => z (by rw [q]; rfl)))
theorem r_if_neN (hx : p.tables.exec = Jvm.exec) (hb : c.code = cc) {a : Nat} {off : Int} {tgt : Nat} (d : decode cc pc = .ok (.ifCond .ne off, 3)) (ht : (pc : Int) + off = (tgt : Int)) (ha : a < 2147483648) (kt : ¬ a = 0 → W p l e R s m args below meth c H locs cells slots Q (F0 m tgt ls rest)) (kf : a = 0 → W p l e R s m args below meth c H locs cells slots Q (F0 m (pc + 3) ls rest)) : W p l e R s m args below meth c H locs cells slots Q (F0 m pc ls (.int (nI a) :: rest)) := lv_if_ne hx hb d ht (fun z => kt (fun q => z (by rw [q]; rfl))) (fun z => kf (by rw [← nI_0] at z; exact (nI_eq ha (by decide)).mp z))
theorem r_if_gtN (hx : p.tables.exec = Jvm.exec) (hb : c.code = cc) {a : Nat} {off : Int} {tgt : Nat} (d : decode cc pc = .ok (.ifCond .gt off, 3)) (ht : (pc : Int) + off = (tgt : Int)) (ha : a < 2147483648) (kt : 0 < a → W p l e R s m args below meth c H locs cells slots Q (F0 m tgt ls rest)) (kf : a = 0 → W p l e R s m args below meth c H locs cells slots Q (F0 m (pc + 3) ls rest)) : W p l e R s m args below meth c H locs cells slots Q (F0 m pc ls (.int (nI a) :: rest)) := lv_if_gt hx hb d ht (fun z => kt (by rw [← nI_0] at z; exact (nI_ltI (by decide) ha).mp z)) (fun z => kf (Nat.eq_zero_of_not_pos (fun q => z (by rw [← nI_0]; exact (nI_ltI (by decide) ha).mpr q))))
theorem r_if_leN (hx : p.tables.exec = Jvm.exec) (hb : c.code = cc) {a : Nat} {off : Int} {tgt : Nat} (d : decode cc pc = .ok (.ifCond .le off, 3)) (ht : (pc : Int) + off = (tgt : Int)) (ha : a < 2147483648) (kt : a = 0 → W p l e R s m args below meth c H locs cells slots Q (F0 m tgt ls rest)) (kf : 0 < a → W p l e R s m args below meth c H locs cells slots Q (F0 m (pc + 3) ls rest)) : W p l e R s m args below meth c H locs cells slots Q (F0 m pc ls (.int (nI a) :: rest)) := lv_if_le hx hb d ht (fun z => kt (by rw [← nI_0] at z; exact Nat.le_zero.mp ((nI_leI ha (by decide)).mp z))) (fun z => kf (Nat.pos_of_ne_zero (fun q => z (by rw [q]; decide))))
theorem r_if_eqB (hx : p.tables.exec = Jvm.exec) (hb : c.code = cc) {P : Prop} [Decidable P] {off : Int} {tgt : Nat} (d : decode cc pc = .ok (.ifCond .eq off, 3)) (ht : (pc : Int) + off = (tgt : Int)) (kt : ¬ P → W p l e R s m args below meth c H locs cells slots Q (F0 m tgt ls rest)) (kf : P → W p l e R s m args below meth c H locs cells slots Q (F0 m (pc + 3) ls rest)) : W p l e R s m args below meth c H locs cells slots Q (F0 m pc ls (.int (b2i P) :: rest)) := lv_if_eq hx hb d ht (fun z => kt (b2i_0.mp z)) (fun z => kf (Classical.byContradiction (fun q => z (b2i_0.mpr q))))
theorem r_if_neB (hx : p.tables.exec = Jvm.exec) (hb : c.code = cc) {P : Prop} [Decidable P] {off : Int} {tgt : Nat} (d : decode cc pc = .ok (.ifCond .ne off, 3)) (ht : (pc : Int) + off = (tgt : Int)) (kt : P → W p l e R s m args below meth c H locs cells slots Q (F0 m tgt ls rest)) (kf : ¬ P → W p l e R s m args below meth c H locs cells slots Q (F0 m (pc + 3) ls rest)) : W p l e R s m args below meth c H locs cells slots Q (F0 m pc ls (.int (b2i P) :: rest)) := lv_if_ne hx hb d ht (fun z => kt (Classical.byContradiction (fun q => z (b2i_0.mpr q)))) (fun z => kf (b2i_0.mp z))
theorem r_iincN (hx : p.tables.exec = Jvm.exec) (hb : c.code = cc) {i nL k : Nat} {n : Int} {a b : Nat} {lv lv' : List (Nat × Value)} (d : decode cc pc = .ok (.iinc i n, 3)) (h : lv_has ls nL lv) (hk : lv[k]? = some (i, .int (nI a))) (hn : Int32.ofInt n = nI b) (hi : i < nL) (hl : (i, Value.int (nI (a + b))) :: lv.filter (fun q => !(q.1 == i) && !(q.1 + 1 == i && q.2.category == 2)) = lv') (kk : ∀ ls' : Array Slot, lv_has ls' nL lv' → W p l e R s m args below meth c H locs cells slots Q (F0 m (pc + 3) ls' rest)) : W p l e R s m args below meth c H locs cells slots Q (F0 m pc ls rest) := lv_iinc (v := nI (a + b)) hx hb d h hk (by rw [hn, nI_add]) hi hl kk
theorem sw_split (x : Int32) (n : Nat) (hn : n < 2147483647) : (x.toInt < 0 ∨ (n : Int) < x.toInt) ∨ ∃ j : Nat, j ≤ n ∧ x = nI j := by
  by_cases h0 : x.toInt < 0
  · exact Or.inl (Or.inl h0)
  · by_cases h1 : (n : Int) < x.toInt
    · exact Or.inl (Or.inr h1)
    · obtain ⟨j, hj, e⟩ := vp_in_of (x := x) (n := n + 1) (vp_in_iff.mpr ⟨by omega, by omega⟩) (by omega)
      exact Or.inr ⟨j, by omega, e⟩
end RN
/-! CONTRACTS of methods that make nothing and throw nothing, over a world by labels -/
section RMs
variable {D : va_G} {cI cZ cO : ClassId} {dom : Nat → Nat → Prop} {L : Lay} {σ σ' σ2 : St} {ow : Nat → Prop}
def RQi (D : va_G) (cI cZ cO : ClassId) (dom : Nat → Nat → Prop) (L : Lay) (ow : Nat → Prop) (sz : Nat) (r : Int32) (σ' : St) : Array Value → State → Outcome → State → Prop := va_Qi (fun x (_ : Unit) => x = r) (fun _ t => PW D cI cZ cO dom L σ' ow t.heap) (AA ow sz)
def RQv (D : va_G) (cI cZ cO : ClassId) (dom : Nat → Nat → Prop) (L : Lay) (ow : Nat → Prop) (sz : Nat) (σ' : St) : Array Value → State → Outcome → State → Prop := va_Qv (fun (_ : Unit) => True) (fun _ t => PW D cI cZ cO dom L σ' ow t.heap) (AA ow sz)
def RP (D : va_G) (cI cZ cO : ClassId) (dom : Nat → Nat → Prop) (L : Lay) (σ : St) (ow : Nat → Prop) (sz : Nat) (av : List Value) : Array Value → State → Prop := va_Pc av (fun U => U.heap.size = sz ∧ KK D cI cZ cO U ∧ PW D cI cZ cO dom L σ ow U.heap)
/-- the method y, from the state σ: it answers r and leaves σ' -/
def RM (D : va_G) (cI cZ cO : ClassId) (dom : Nat → Nat → Prop) (l : Launch) (y : MethodName) (b : ByteArray) (n : Nat) (ret : Option FieldType) (fr lo : Nat) (av : List Value) (L : Lay) (σ : St) (ow : Nat → Prop) (r : Int32) (σ' : St) : Prop :=
  ∀ sz : Nat, Met l y (wM y b n ret) { frames := fr, cells := 0, slots := 0, locals := lo } (RP D cI cZ cO dom L σ ow sz av) (RQi D cI cZ cO dom L ow sz r σ') 0 0 (AA ow sz)
def RV (D : va_G) (cI cZ cO : ClassId) (dom : Nat → Nat → Prop) (l : Launch) (y : MethodName) (b : ByteArray) (n : Nat) (fr lo : Nat) (av : List Value) (L : Lay) (σ : St) (ow : Nat → Prop) (σ' : St) : Prop :=
  ∀ sz : Nat, Met l y (wM y b n none) { frames := fr, cells := 0, slots := 0, locals := lo } (RP D cI cZ cO dom L σ ow sz av) (RQv D cI cZ cO dom L ow sz σ') 0 0 (AA ow sz)
theorem rp_blind {sz : Nat} {av : List Value} : FrameBlind (RP D cI cZ cO dom L σ ow sz av) := fun a U g mk q => by
  obtain ⟨q0, q1, q2, q3⟩ := q
  exact ⟨q0, q1, va_K.moved (u := U) (U := U.calling g mk a) (Vm.Alike.refl U.vm) q2, q3⟩
theorem rm_of {l : Launch} {y : MethodName} {b : ByteArray} {n : Nat} {ret : Option FieldType} {fr lo : Nat} {av : List Value} {r : Int32} (hy : plainName y.cls = true) (hn : (lg_sl av).length ≤ n)
    (body : ∀ (p : Program) (e : Env) (s : State) (m : MethodId) (below : List Frame) (meth : Method) (c : Code) (ls : Array Slot), CallFix p m c b n s av.toArray TB y.cls → KK D cI cZ cO s → PW D cI cZ cO dom L σ ow s.heap → meth.sig.returnType = ret → meth.locks = false → lv_has ls n (lv_args 0 av) →
      W p l e { frames := fr, cells := 0, slots := 0, locals := lo } s m av.toArray below meth c s.heap [] 0 0 (MQ below (RQi D cI cZ cO dom L ow s.heap.size r σ') av.toArray s 0 0 (AA ow s.heap.size)) (F0 m 0 ls [])) : RM D cI cZ cO dom l y b n ret fr lo av L σ ow r σ' := by
  intro sz
  refine Met.ofW (cc := b) (maxL := n) (ret := ret) hy rfl ?_
  intro p e s m args below meth c s₁ B hml hv
  obtain ⟨rfl, hsz, hK, hG⟩ := hv
  subst hsz
  rw [lg_entry_eq]
  have hl := lv_entry av hn
  exact body p e s m below meth c _ ⟨B.exec, B.bytes, hml, findClass_of_methodNamed B.named, wm_hts (atoms_spec (ws := wM y b n ret) B.pre)⟩ hK hG B.returns B.notSynchronized hl
theorem rv_of {l : Launch} {y : MethodName} {b : ByteArray} {n : Nat} {fr lo : Nat} {av : List Value} (hy : plainName y.cls = true) (hn : (lg_sl av).length ≤ n)
    (body : ∀ (p : Program) (e : Env) (s : State) (m : MethodId) (below : List Frame) (meth : Method) (c : Code) (ls : Array Slot), CallFix p m c b n s av.toArray TB y.cls → KK D cI cZ cO s → PW D cI cZ cO dom L σ ow s.heap → meth.sig.returnType = none → meth.locks = false → lv_has ls n (lv_args 0 av) →
      W p l e { frames := fr, cells := 0, slots := 0, locals := lo } s m av.toArray below meth c s.heap [] 0 0 (MQ below (RQv D cI cZ cO dom L ow s.heap.size σ') av.toArray s 0 0 (AA ow s.heap.size)) (F0 m 0 ls [])) : RV D cI cZ cO dom l y b n fr lo av L σ ow σ' := by
  intro sz
  refine Met.ofW (cc := b) (maxL := n) (ret := none) hy rfl ?_
  intro p e s m args below meth c s₁ B hml hv
  obtain ⟨rfl, hsz, hK, hG⟩ := hv
  subst hsz
  rw [lg_entry_eq]
  have hl := lv_entry av hn
  exact body p e s m below meth c _ ⟨B.exec, B.bytes, hml, findClass_of_methodNamed B.named, wm_hts (atoms_spec (ws := wM y b n none) B.pre)⟩ hK hG B.returns B.notSynchronized hl
variable {p : Program} {l : Launch} {e : Env} {R : Room} {s : State} {m : MethodId} {args : Array Value} {below : List Frame} {meth : Method} {c : Code} {H H0 : Heap} {locs : List Loc} {cells slots : Nat} {Q : State → Prop}
variable {cc : ByteArray} {pc nL : Nat} {ls : Array Slot} {rest st0 : List Value} {own : String}
theorem rm_ret (hx : p.tables.exec = Jvm.exec) (hb : c.code = cc) {ty : FieldType} (hr : meth.sig.returnType = some ty) (hlocks : meth.locks = false) (hG : PW D cI cZ cO dom L σ2 ow H) (hS : va_S (AA ow s.heap.size) s.heap H locs) {v r : Int32} (hv : v = r) (hσ : σ2 = σ') (hn : narrow ty (.int v) = .int v) (d : decode cc pc = .ok (.ireturn, 1)) :
    W p l e R s m args below meth c H locs cells slots (MQ below (RQi D cI cZ cO dom L ow s.heap.size r σ') args s cells slots (AA ow s.heap.size)) (F0 m pc ls [.int v]) := by
  subst hσ
  exact W.zret hx hb hr hn (fun t ht hW => ⟨⟨v, (), rfl, hv, by show PW D cI cZ cO dom L σ2 ow t.heap; rw [ht]; exact hG⟩, hS.F ht⟩) hS.2.2 d hlocks
theorem rv_ret (hx : p.tables.exec = Jvm.exec) (hb : c.code = cc) (hr : meth.sig.returnType = none) (hlocks : meth.locks = false) (hG : PW D cI cZ cO dom L σ2 ow H) (hS : va_S (AA ow s.heap.size) s.heap H locs) (hσ : σ2 = σ') (d : decode cc pc = .ok (.return_, 1)) :
    W p l e R s m args below meth c H locs cells slots (MQ below (RQv D cI cZ cO dom L ow s.heap.size σ') args s cells slots (AA ow s.heap.size)) (F0 m pc ls []) := by
  subst hσ
  exact W.vret hx hb hr (fun t ht hW => ⟨⟨(), rfl, trivial, by show PW D cI cZ cO dom L σ2 ow t.heap; rw [ht]; exact hG⟩, hS.F ht⟩) hS.2.2 d hlocks
/-- what the tables say of a callee: an instance method of the class RC, a static one -/
def YV (y : MethodName) (RC : String) (b : ByteArray) (n : Nat) (ret : Option FieldType) (na : Nat) : Prop := (Cond.instanceMethod y ∈ TB ∧ Cond.selects RC y y ∈ TB ∧ Cond.initialized RC ∈ TB ∧ Cond.code y b n ret ∈ TB) ∧ y.cls = RC ∧ y.cls ≠ "java/lang/invoke/MethodHandle" ∧ y.cls ≠ "java/lang/invoke/VarHandle" ∧ (parseMethodDescriptor y.desc).map (fun d => d.parameters.length) = some na
def YS (y : MethodName) (b : ByteArray) (n : Nat) (ret : Option FieldType) (na : Nat) : Prop := (Cond.static y ∈ TB ∧ Cond.initialized y.cls ∈ TB ∧ Cond.code y b n ret ∈ TB) ∧ y.cls ≠ "java/lang/invoke/MethodHandle" ∧ y.cls ≠ "java/lang/invoke/VarHandle" ∧ (parseMethodDescriptor y.desc).map (fun d => d.parameters.length) = some na
theorem g_in {w : Cond} (h : w ∈ TB) : w ∈ TB ∧ ((w.onTables && w.keeps) = true ∨ ∃ ty, w = .arrayClass ty) := ⟨h, good_of_word (tb_all _ h)⟩
theorem yv_cw {y : MethodName} {RC : String} {b : ByteArray} {n : Nat} {ret : Option FieldType} {na idx : Nat} {rm : Room} {mc ms : Nat} (hts : ∀ w ∈ TB, w.before args s = true) (hY : YV y RC b n ret na) (hl : Cond.methodLink own idx y ∈ TB) (hrc : rm.cells = mc) (hrs : rm.slots = ms) (hR : rm.frames + 1 ≤ R.frames ∧ 8 + (n + 11) + rm.locals ≤ R.locals) : CallW R s args own RC idx y b n ret (wM y b n ret) rm mc ms na :=
  cwV na hts (fun w hw => by
    rcases List.mem_append.mp hw with h | h
    · rcases List.mem_cons.mp h with rfl | h
      · exact g_in hl
      · rcases List.mem_cons.mp h with rfl | h
        · exact g_in hY.1.1
        · rcases List.mem_cons.mp h with rfl | h
          · exact g_in hY.1.2.1
          · rcases List.mem_cons.mp h with rfl | h
            · exact g_in hY.1.2.2.1
            · cases h
    · exact wm_in hY.1.2.2.2 w h) rfl hrc hrs hY.2 hR
theorem ys_cw {y : MethodName} {b : ByteArray} {n : Nat} {ret : Option FieldType} {na idx : Nat} {rm : Room} {mc ms : Nat} (hts : ∀ w ∈ TB, w.before args s = true) (hY : YS y b n ret na) (hl : Cond.methodLink own idx y ∈ TB) (hrc : rm.cells = mc) (hrs : rm.slots = ms) (hR : rm.frames + 1 ≤ R.frames ∧ 8 + (n + 11) + rm.locals ≤ R.locals) : CallB R s args own idx y b n ret (wM y b n ret) rm mc ms na ∧ (Cond.static y).before args s = true :=
  ⟨callB_of na hts (wm_in hY.1.2.2) rfl hrc hrs (hts _ hY.1.2.1) (hts _ hl) hY.2 hR, hts _ hY.1.1⟩
/-- the receiver, by its label -/
theorem pw_recv (hK : KK D cI cZ cO s) (hG : PW D cI cZ cO dom L σ ow H) {C : Nat} {RC : String} {T : u_T} {ty : Nat → FieldType} (kc : KC C RC T ty) {O : Nat} (hO : 100 * C + 99 = O) {k : Nat} (hd : dom O k) : ∃ cellB : Cell, H[L O k]? = some cellB ∧ cellB.vm.isStatics = false ∧ s.vm.findClass RC = some cellB.cls := by
  subst hO
  have hat := hG.1 _ _ hd
  rw [ent_o] at hat
  exact va_recv hK (va_P1 hat) kc.1 (q0 := 0) rfl
theorem rp_pre {sz : Nat} {av : List Value} (hK : KK D cI cZ cO s) (hG : PW D cI cZ cO dom L σ ow H) (hsz : H.size = sz) : ∀ U : State, U.heap = H → s.WarmedH U.vm → RP D cI cZ cO dom L σ ow sz av av.toArray U := fun U hU hW => ⟨rfl, by rw [hU]; exact hsz, va_K.moved hW.alike hK, by rw [hU]; exact hG⟩
section
variable {y : MethodName} {RC : String} {b : ByteArray} {n : Nat} {ret : Option FieldType} {na idx fr lo : Nat} {r : Int32} {T : u_T} {ty : Nat → FieldType}
theorem rm_callV (X : CallFix p m c cc nL s args TB own) (hK : KK D cI cZ cO s) (hG : PW D cI cZ cO dom L σ ow H) (hS : va_S (AA ow s.heap.size) s.heap H locs) (hY : YV y RC b n ret na) (hl : Cond.methodLink own idx y ∈ TB) {C : Nat} (kc : KC C RC T ty) {O k : Nat} (hO : 100 * C + 99 = O) (hd : dom O k) (As : List Value) (rest : List Value) (hM : RM D cI cZ cO dom l y b n ret fr lo (.ref (L O k) :: As) L σ ow r σ')
    (hst : st0 = As.reverse ++ .ref (L O k) :: rest) (hls : ls.size = nL) (hn : As.length = na) (hrm : (rest.map fun v => v.category).sum ≤ 8) (hR : fr + 1 ≤ R.frames ∧ 8 + (n + 11) + lo ≤ R.locals) (hc : cells ≤ R.cells ∧ slots ≤ R.slots) (d : decode cc pc = .ok (.invokevirtual idx, 3))
    (kk : ∀ (H1 : Heap) (locs1 : List Loc), PW D cI cZ cO dom L σ' ow H1 → va_S (AA ow s.heap.size) s.heap H1 locs1 → W p l e R s m args below meth c H1 locs1 cells slots Q (F0 m (pc + 3) ls (.int r :: rest))) : W p l e R s m args below meth c H locs cells slots Q (F0 m pc ls st0) := by
  subst hst
  refine va_calli (va_runV (As := As) (rest := rest) X (hM H.size) (yv_cw X.2.2.2.2 hY hl rfl rfl hR) ⟨rp_blind, pw_recv hK hG kc hO hd, rp_pre hK hG rfl⟩ rfl hn hls rfl (lv_room hrm) d hc) hS (fun q _ h => aa_le hS.1 q h) (fun q h => aa_le hS.1 q h) ?_
  intro r1 u t H1 locs1 ht _ hw hB _ _ hS1
  subst hw
  rw [ht] at hB
  exact kk H1 locs1 hB hS1
theorem rv_callV (X : CallFix p m c cc nL s args TB own) (hK : KK D cI cZ cO s) (hG : PW D cI cZ cO dom L σ ow H) (hS : va_S (AA ow s.heap.size) s.heap H locs) (hY : YV y RC b n none na) (hl : Cond.methodLink own idx y ∈ TB) {C : Nat} (kc : KC C RC T ty) {O k : Nat} (hO : 100 * C + 99 = O) (hd : dom O k) (As : List Value) (rest : List Value) (hM : RV D cI cZ cO dom l y b n fr lo (.ref (L O k) :: As) L σ ow σ')
    (hst : st0 = As.reverse ++ .ref (L O k) :: rest) (hls : ls.size = nL) (hn : As.length = na) (hrm : (rest.map fun v => v.category).sum ≤ 8) (hR : fr + 1 ≤ R.frames ∧ 8 + (n + 11) + lo ≤ R.locals) (hc : cells ≤ R.cells ∧ slots ≤ R.slots) (d : decode cc pc = .ok (.invokevirtual idx, 3))
    (kk : ∀ (H1 : Heap) (locs1 : List Loc), PW D cI cZ cO dom L σ' ow H1 → va_S (AA ow s.heap.size) s.heap H1 locs1 → W p l e R s m args below meth c H1 locs1 cells slots Q (F0 m (pc + 3) ls rest)) : W p l e R s m args below meth c H locs cells slots Q (F0 m pc ls st0) := by
  subst hst
  refine va_callv (va_runV (As := As) (rest := rest) X (hM H.size) (yv_cw X.2.2.2.2 hY hl rfl rfl hR) ⟨rp_blind, pw_recv hK hG kc hO hd, rp_pre hK hG rfl⟩ rfl hn hls rfl (lv_room hrm) d hc) hS (fun q _ h => aa_le hS.1 q h) (fun q h => aa_le hS.1 q h) ?_
  intro u t H1 locs1 ht _ _ hB _ _ hS1
  rw [ht] at hB
  exact kk H1 locs1 hB hS1
theorem rm_callS (X : CallFix p m c cc nL s args TB own) (hK : KK D cI cZ cO s) (hG : PW D cI cZ cO dom L σ ow H) (hS : va_S (AA ow s.heap.size) s.heap H locs) (hY : YS y b n ret na) (hl : Cond.methodLink own idx y ∈ TB) (As : List Value) (rest : List Value) (hM : RM D cI cZ cO dom l y b n ret fr lo As L σ ow r σ')
    (hst : st0 = As.reverse ++ rest) (hls : ls.size = nL) (hn : As.length = na) (hrm : (rest.map fun v => v.category).sum ≤ 8) (hR : fr + 1 ≤ R.frames ∧ 8 + (n + 11) + lo ≤ R.locals) (hc : cells ≤ R.cells ∧ slots ≤ R.slots) (d : decode cc pc = .ok (.invokestatic idx, 3))
    (kk : ∀ (H1 : Heap) (locs1 : List Loc), PW D cI cZ cO dom L σ' ow H1 → va_S (AA ow s.heap.size) s.heap H1 locs1 → W p l e R s m args below meth c H1 locs1 cells slots Q (F0 m (pc + 3) ls (.int r :: rest))) : W p l e R s m args below meth c H locs cells slots Q (F0 m pc ls st0) := by
  subst hst
  refine va_calli (va_runS (As := As) (rest := rest) X (hM H.size) (ys_cw X.2.2.2.2 hY hl rfl rfl hR) ⟨rp_blind, rp_pre hK hG rfl⟩ rfl hn hls rfl (lv_room hrm) d hc) hS (fun q _ h => aa_le hS.1 q h) (fun q h => aa_le hS.1 q h) ?_
  intro r1 u t H1 locs1 ht _ hw hB _ _ hS1
  subst hw
  rw [ht] at hB
  exact kk H1 locs1 hB hS1
theorem rv_callS (X : CallFix p m c cc nL s args TB own) (hK : KK D cI cZ cO s) (hG : PW D cI cZ cO dom L σ ow H) (hS : va_S (AA ow s.heap.size) s.heap H locs) (hY : YS y b n none na) (hl : Cond.methodLink own idx y ∈ TB) (As : List Value) (rest : List Value) (hM : RV D cI cZ cO dom l y b n fr lo As L σ ow σ')
    (hst : st0 = As.reverse ++ rest) (hls : ls.size = nL) (hn : As.length = na) (hrm : (rest.map fun v => v.category).sum ≤ 8) (hR : fr + 1 ≤ R.frames ∧ 8 + (n + 11) + lo ≤ R.locals) (hc : cells ≤ R.cells ∧ slots ≤ R.slots) (d : decode cc pc = .ok (.invokestatic idx, 3))
    (kk : ∀ (H1 : Heap) (locs1 : List Loc), PW D cI cZ cO dom L σ' ow H1 → va_S (AA ow s.heap.size) s.heap H1 locs1 → W p l e R s m args below meth c H1 locs1 cells slots Q (F0 m (pc + 3) ls rest)) : W p l e R s m args below meth c H locs cells slots Q (F0 m pc ls st0) := by
  subst hst
  refine va_callv (va_runS (As := As) (rest := rest) X (hM H.size) (ys_cw X.2.2.2.2 hY hl rfl rfl hR) ⟨rp_blind, rp_pre hK hG rfl⟩ rfl hn hls rfl (lv_room hrm) d hc) hS (fun q _ h => aa_le hS.1 q h) (fun q h => aa_le hS.1 q h) ?_
  intro u t H1 locs1 ht _ _ hB _ _ hS1
  rw [ht] at hB
  exact kk H1 locs1 hB hS1
end
/-- a place where ways meet: proved once, with what stands on top there -/
theorem r_cut (pc2 : Nat) (st2 : List Value) (h1 : W p l e R s m args below meth c H locs cells slots Q (F0 m pc2 ls st2)) (h2 : W p l e R s m args below meth c H locs cells slots Q (F0 m pc2 ls st2) → W p l e R s m args below meth c H locs cells slots Q (F0 m pc ls st0)) : W p l e R s m args below meth c H locs cells slots Q (F0 m pc ls st0) := h2 h1
theorem r_cutL (pc2 : Nat) (st2 : List Value) (lv : List (Nat × Value)) (h1 : ∀ ls' : Array Slot, lv_has ls' nL lv → W p l e R s m args below meth c H locs cells slots Q (F0 m pc2 ls' st2)) (h2 : (∀ ls' : Array Slot, lv_has ls' nL lv → W p l e R s m args below meth c H locs cells slots Q (F0 m pc2 ls' st2)) → W p l e R s m args below meth c H locs cells slots Q (F0 m pc ls st0)) : W p l e R s m args below meth c H locs cells slots Q (F0 m pc ls st0) := h2 h1
end RMs
