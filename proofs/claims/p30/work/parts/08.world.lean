/-! THE WORLD. A field is numbered F = 100 * C + f (C: the class as in 'names', X0 .. X9, 10 for ArrayList; f its place). An object (C, k) has the label (100 * C + 99, k); an array or list that the field F of the object k holds has the label (F, k). L gives each label's address. A state: numbers N (as nI), raw ints I, rows of N, rows of raw ints. -/
abbrev St : Type := (Nat → Nat → Nat) × (Nat → Nat → Int32) × (Nat → Nat → Nat → Nat) × (Nat → Nat → Nat → Int32)
def up1 {α : Type} (f : Nat → α) (k : Nat) (v : α) : Nat → α := fun j => if j = k then v else f j
def up2 {α : Type} (f : Nat → Nat → α) (F k : Nat) (v : α) : Nat → Nat → α := fun F' => if F' = F then up1 (f F) k v else f F'
def up3 {α : Type} (f : Nat → Nat → Nat → α) (F k i : Nat) (v : α) : Nat → Nat → Nat → α := fun F' => if F' = F then up2 (f F) k i v else f F'
theorem up1_s {α : Type} {f : Nat → α} {k : Nat} {v : α} : up1 f k v k = v := by simp [up1]
theorem up1_n {α : Type} {f : Nat → α} {k j : Nat} {v : α} (h : j ≠ k) : up1 f k v j = f j := by simp [up1, h]
theorem up2_n {α : Type} {f : Nat → Nat → α} {F k F' k' : Nat} {v : α} (h : ¬ (F' = F ∧ k' = k)) : up2 f F k v F' k' = f F' k' := by
  unfold up2
  by_cases h1 : F' = F
  · subst h1; rw [if_pos rfl, up1_n (fun z => h ⟨rfl, z⟩)]
  · rw [if_neg h1]
theorem up2_s {α : Type} {f : Nat → Nat → α} {F k : Nat} {v : α} : up2 f F k v F k = v := by simp [up2, up1]
theorem up3_n {α : Type} {f : Nat → Nat → Nat → α} {F k i F' k' : Nat} {v : α} (h : ¬ (F' = F ∧ k' = k)) : up3 f F k i v F' k' = f F' k' := by
  unfold up3
  by_cases h1 : F' = F
  · subst h1
    rw [if_pos rfl]
    unfold up2
    rw [if_neg (fun z => h ⟨rfl, z⟩)]
  · rw [if_neg h1]
theorem up3_s {α : Type} {f : Nat → Nat → Nat → α} {F k i : Nat} {v : α} : up3 f F k i v F k = up1 (f F k) i v := by simp [up3, up2]
def wN (σ : St) (F k : Nat) (v : Nat) : St := (up2 σ.1 F k v, σ.2.1, σ.2.2.1, σ.2.2.2)
def wI (σ : St) (F k : Nat) (v : Int32) : St := (σ.1, up2 σ.2.1 F k v, σ.2.2.1, σ.2.2.2)
def wA (σ : St) (F k i : Nat) (v : Nat) : St := (σ.1, σ.2.1, up3 σ.2.2.1 F k i v, σ.2.2.2)
def wB (σ : St) (F k i : Nat) (v : Int32) : St := (σ.1, σ.2.1, σ.2.2.1, up3 σ.2.2.2 F k i v)
/-- the fields' kinds: 0 a number N, 1 a raw int, 2 a row of N, 3 a row of raw ints, 4 a row of longs (as numbers), 8 a row of raw ints whose length the state tells, 5 another object, 6 a list's row -/
def flds (C : Nat) : List Nat := match C with
  | 0 => [2, 2, 2, 2, 2, 0]
  | 1 => [1, 1]
  | 2 => [3, 3, 3, 3, 3, 0, 1, 1, 0, 1]
  | 3 => [1, 1, 1, 1, 3, 3, 0]
  | 4 => [3, 3, 0]
  | 5 => [1, 1, 0, 3, 0, 1, 0, 1]
  | 6 => [3, 2, 0, 0, 1]
  | 7 => [5, 5, 2, 2, 0, 0, 0, 1, 1, 1, 1]
  | 8 => [5, 5, 5, 5, 5, 5, 3, 3, 3, 5, 5, 0, 0]
  | 9 => [4, 3, 8, 8, 3, 8]
  | 10 => [1, 6, 0]
  | _ => []
def fty (F : Nat) : Nat := (flds (F / 100)).getD (F % 100) 9
/-- how long a row is -/
def flen (F : Nat) : Nat := match F with
  | 0 => 6 | 1 => 6 | 2 => 6 | 3 => 6 | 4 => 6
  | 200 => 144 | 201 => 144 | 202 => 144 | 203 => 144 | 204 => 144
  | 304 => 6 | 305 => 6
  | 400 => 30 | 401 => 30
  | 503 => 3
  | 600 => 144 | 601 => 4
  | 702 => 6 | 703 => 3
  | 806 => 12 | 807 => 4 | 808 => 4
  | 900 => 48 | 901 => 39 | 904 => 20
  | _ => 0
/-- which object a field of kind 5 holds: its label -/
def ftg (F : Nat) : Nat × Nat := match F with
  | 700 => (1099, 6) | 701 => (1099, 7)
  | 800 => (1099, 0) | 801 => (1099, 1) | 802 => (1099, 2) | 803 => (1099, 3) | 804 => (1099, 4) | 805 => (1099, 5)
  | 809 => (799, 0) | 810 => (699, 0)
  | _ => (0, 0)
/-- of which class a list's objects are: their label -/
def fel (j : Nat) : Nat := match j with
  | 0 => 599 | 1 => 299 | 2 => 299 | 3 => 199 | 4 => 99 | 5 => 399 | _ => 499
/-- a class's place in vwCl -/
def vix (C : Nat) : Nat := if C = 10 then 0 else C + 1
abbrev Lay : Type := Nat → Nat → Nat
def fval (L : Lay) (σ : St) (F k : Nat) : Value := if fty F = 0 then .int (nI (σ.1 F k)) else if fty F = 1 then .int (σ.2.1 F k) else if fty F = 5 then .ref (L (ftg F).1 (ftg F).2) else .ref (L F k)
def ofl (L : Lay) (σ : St) (C k : Nat) : List Value := (List.range (flds C).length).map (fun f => fval L σ (100 * C + f) k)
def lrefs (L : Lay) (σ : St) (j : Nat) : Nat → Option Nat := fun i => if i < σ.1 1002 j then some (L (fel j) (σ.2.2.1 1001 j i)) else none
/-- a long, by its number -/
def lJ (n : Nat) : Int64 := Int64.ofNat n
def ent (cI cZ cO : ClassId) (L : Lay) (σ : St) (F k : Nat) : va_E :=
  if F % 100 = 99 then .inr (vix (F / 100), ofl L σ (F / 100) k)
  else if F = 1001 then .inl (cO, σ.1 1003 k, .inr (.inr (.inr (.inr (lrefs L σ k)))))
  else if fty F = 2 then .inl (cI, flen F, .inl (fun i => nI (σ.2.2.1 F k i)))
  else if fty F = 4 then .inl (cZ, flen F, .inr (.inl (fun i => lJ (σ.2.2.1 F k i))))
  else if fty F = 8 then .inl (cI, σ.2.2.1 F k 0, .inl (σ.2.2.2 F k))
  else .inl (cI, flen F, .inl (σ.2.2.2 F k))
/-- the heap holds the labels of dom: at addresses that are apart, all of them own's -/
def PW (D : va_G) (cI cZ cO : ClassId) (dom : Nat → Nat → Prop) (L : Lay) (σ : St) (ow : Nat → Prop) (H : Heap) : Prop :=
  (∀ F k, dom F k → va_at D vwCl (L F k, ent cI cZ cO L σ F k) H) ∧ (∀ F k F' k', dom F k → dom F' k' → L F k = L F' k' → F = F' ∧ k = k') ∧ ∀ F k, dom F k → ow (L F k)
abbrev KK (D : va_G) (cI cZ cO : ClassId) (U : State) : Prop := va_K D vwCl [(cI, .int), (cZ, .long), (cO, .object "java/lang/Object")] U
def AA (ow : Nat → Prop) (sz : Nat) : Nat → Prop := fun q => ow q ∨ sz ≤ q
theorem aa_new {ow : Nat → Prop} {sz : Nat} : ∀ q, sz ≤ q → AA ow sz q := fun _ h => Or.inr h
theorem aa_le {ow : Nat → Prop} {sz sz' : Nat} (h : sz ≤ sz') : ∀ q, AA ow sz' q → AA ow sz q := fun q a => a.elim Or.inl (fun b => Or.inr (Nat.le_trans h b))
theorem PW.upd {D : va_G} {cI cZ cO : ClassId} {dom : Nat → Nat → Prop} {L : Lay} {σ σ' : St} {ow : Nat → Prop} {H H1 : Heap} (h : PW D cI cZ cO dom L σ ow H) {F0 k0 : Nat} (hd : dom F0 k0)
    (he : va_at D vwCl (L F0 k0, ent cI cZ cO L σ' F0 k0) H1) (hoq : ∀ q, q ≠ L F0 k0 → H1[q]? = H[q]?) (ho : ∀ F k, ¬ (F = F0 ∧ k = k0) → ent cI cZ cO L σ' F k = ent cI cZ cO L σ F k) : PW D cI cZ cO dom L σ' ow H1 := by
  refine ⟨fun F k hF => ?_, h.2.1, h.2.2⟩
  by_cases e : F = F0 ∧ k = k0
  · obtain ⟨rfl, rfl⟩ := e
    exact he
  · rw [ho F k e]
    exact (h.1 F k hF).kept (hoq _ (fun z => e (h.2.1 F k F0 k0 hF hd z)))
theorem PW.kept {D : va_G} {cI cZ cO : ClassId} {dom : Nat → Nat → Prop} {L : Lay} {σ : St} {ow : Nat → Prop} {H H1 : Heap} (h : PW D cI cZ cO dom L σ ow H) (hoq : ∀ q, q < H.size → ow q → H1[q]? = H[q]?) : PW D cI cZ cO dom L σ ow H1 :=
  ⟨fun F k hF => (h.1 F k hF).kept (hoq _ ((h.1 F k hF).lt) (h.2.2 F k hF)), h.2.1, h.2.2⟩
theorem flds_le (C : Nat) : (flds C).length ≤ 45 := by
  unfold flds
  split <;> decide
theorem fty_f {C f : Nat} (hf : f < 99) : fty (100 * C + f) = (flds C).getD f 9 := by
  unfold fty
  rw [show (100 * C + f) / 100 = C by omega, show (100 * C + f) % 100 = f by omega]
theorem fval_n {L : Lay} {σ σ' : St} {F k : Nat} (h1 : σ'.1 F k = σ.1 F k) (h2 : σ'.2.1 F k = σ.2.1 F k) : fval L σ' F k = fval L σ F k := by
  unfold fval
  rw [h1, h2]
theorem ofl_n {L : Lay} {σ σ' : St} {C k : Nat} (h1 : ∀ f, f < 45 → σ'.1 (100 * C + f) k = σ.1 (100 * C + f) k) (h2 : ∀ f, f < 45 → σ'.2.1 (100 * C + f) k = σ.2.1 (100 * C + f) k) : ofl L σ' C k = ofl L σ C k := by
  unfold ofl
  refine List.map_congr_left (fun f hf => ?_)
  have h3 := List.mem_range.mp hf
  have h4 := flds_le C
  exact fval_n (h1 f (by omega)) (h2 f (by omega))
/-- a scalar changes one object's entry alone -/
theorem ent_s {cI cZ cO : ClassId} {L : Lay} {σ σ' : St} {C f k : Nat} (hf : f < 45) (hC : C < 10) (h1 : ∀ F' k', ¬ (F' = 100 * C + f ∧ k' = k) → σ'.1 F' k' = σ.1 F' k') (h2 : ∀ F' k', ¬ (F' = 100 * C + f ∧ k' = k) → σ'.2.1 F' k' = σ.2.1 F' k') (h3 : σ'.2.2 = σ.2.2) {F' k' : Nat} (h : ¬ (F' = 100 * C + 99 ∧ k' = k)) : ent cI cZ cO L σ' F' k' = ent cI cZ cO L σ F' k' := by
  unfold ent
  by_cases e : F' % 100 = 99
  · rw [if_pos e, if_pos e]
    have : ofl L σ' (F' / 100) k' = ofl L σ (F' / 100) k' := by
      refine ofl_n (fun g hg => h1 _ _ (fun z => h ?_)) (fun g hg => h2 _ _ (fun z => h ?_)) <;>
      · obtain ⟨z1, z2⟩ := z
        exact ⟨by omega, z2⟩
    rw [this]
  · rw [if_neg e, if_neg e]
    have e2 : ∀ j, σ'.1 1002 j = σ.1 1002 j := fun j => h1 _ _ (fun z => by omega)
    have e3 : ∀ j, σ'.1 1003 j = σ.1 1003 j := fun j => h1 _ _ (fun z => by omega)
    have e4 : lrefs L σ' k' = lrefs L σ k' := by
      unfold lrefs
      rw [e2, h3]
    rw [e3, e4, h3]
theorem ofl_set {L : Lay} {σ σ' : St} {C f k : Nat} {v : Value} (hf : f < (flds C).length) (h1 : ∀ f', f' ≠ f → f' < 45 → fval L σ' (100 * C + f') k = fval L σ (100 * C + f') k) (hv : fval L σ' (100 * C + f) k = v) : ofl L σ' C k = (ofl L σ C k).set f v := by
  unfold ofl
  apply List.ext_getElem
  · simp
  · intro i a b
    simp only [List.getElem_map, List.getElem_range]
    by_cases e : i = f
    · subst e
      simp [hv]
    · rw [List.getElem_set_ne (Ne.symm e)]
      simp only [List.getElem_map, List.getElem_range]
      have h4 := flds_le C
      have h5 : i < (flds C).length := by simpa using a
      exact h1 i e (by omega)
theorem ofl_get {L : Lay} {σ : St} {C f k : Nat} {v : Value} (hf : f < (flds C).length) (hv : fval L σ (100 * C + f) k = v) : (ofl L σ C k)[f]? = some v := by
  unfold ofl
  simp [hf, hv]
theorem ent_o {cI cZ cO : ClassId} {L : Lay} {σ : St} {C k : Nat} : ent cI cZ cO L σ (100 * C + 99) k = .inr (vix C, ofl L σ C k) := by
  unfold ent
  rw [if_pos (by omega), show (100 * C + 99) / 100 = C by omega]
/-- a row's cell changes one row's entry alone -/
theorem ent_a {cI cZ cO : ClassId} {L : Lay} {σ σ' : St} {F k : Nat} (h10 : F < 1000) (h0 : σ'.1 = σ.1) (h0' : σ'.2.1 = σ.2.1) (h1 : ∀ F' k', ¬ (F' = F ∧ k' = k) → σ'.2.2.1 F' k' = σ.2.2.1 F' k') (h2 : ∀ F' k', ¬ (F' = F ∧ k' = k) → σ'.2.2.2 F' k' = σ.2.2.2 F' k') {F' k' : Nat} (h : ¬ (F' = F ∧ k' = k)) : ent cI cZ cO L σ' F' k' = ent cI cZ cO L σ F' k' := by
  unfold ent
  have e1 : ofl L σ' (F' / 100) k' = ofl L σ (F' / 100) k' := ofl_n (fun _ _ => by rw [h0]) (fun _ _ => by rw [h0'])
  have e4 : lrefs L σ' k' = lrefs L σ k' := by
    unfold lrefs
    rw [h0, h1 1001 k' (fun z => by omega)]
  rw [e1, e4, h0, h1 F' k' h, h2 F' k' h]
section WR
variable {D : va_G} {cI cZ cO : ClassId} {dom : Nat → Nat → Prop} {L : Lay} {σ : St} {ow A : Nat → Prop}
variable {p : Program} {l : Launch} {e : Env} {R : Room} {s : State} {m : MethodId} {args : Array Value} {below : List Frame} {meth : Method} {c : Code} {H H0 : Heap} {locs : List Loc} {cells slots : Nat} {Q : State → Prop}
variable {cc : ByteArray} {pc nL : Nat} {ls : Array Slot} {rest : List Value} {own : String}
/-- what the tables say of a class -/
def KC (C : Nat) (R : String) (T : u_T) (ty : Nat → FieldType) : Prop := vwCl[vix C]? = some (R, T, (flds C).length) ∧ (∀ w ∈ u_ws R T (flds C).length, w ∈ TB) ∧ (∀ k, k < (flds C).length → parseFieldDescriptor (T k).2.2.1 = some (ty k)) ∧ ∀ a, a < (flds C).length → ∀ b, b < (flds C).length → a ≠ b → (T a).2.1 ≠ (T b).2.1
theorem tb_list {ws : List Cond} (ps : List Nat) (hp : ws = ps.filterMap (fun i => tables_1[i]?)) (h : ws.all goodWord = true) : ∀ w ∈ ws, w ∈ TB := by
  intro w hw
  have h1 := List.all_eq_true.mp h w hw
  rw [hp] at hw
  obtain ⟨i, -, hi⟩ := List.mem_filterMap.mp hw
  exact tb_of (List.mem_of_getElem? hi) h1
theorem pw_get (X : CallFix p m c cc nL s args TB own) (hK : KK D cI cZ cO s) (hG : PW D cI cZ cO dom L σ ow H) {C : Nat} {RC : String} {T : u_T} {ty : Nat → FieldType} (kc : KC C RC T ty) (O F : Nat) (f : Nat) (hO : 100 * C + 99 = O) (hF : 100 * C + f = F) {k : Nat} (hd : dom O k) (hf : f < (flds C).length) {index : Nat} {ref : String}
    (hlink : Cond.fieldLink own index ref (T f).2.1 (T f).2.2.1 ∈ TB) (hsame : ∀ x, s.fieldFound? (T f).1 (T f).2.1 (T f).2.2.1 = some x → s.fieldFound? ref (T f).2.1 (T f).2.2.1 = some x) {v : Value} (hv : fval L σ F k = v) (hdg : decode cc pc = .ok (.getfield index, 3))
    (kk : W p l e R s m args below meth c H locs cells slots Q (F0 m (pc + 3) ls (v :: rest))) : W p l e R s m args below meth c H locs cells slots Q (F0 m pc ls (.ref (L O k) :: rest)) := by
  subst hO hF
  have hat := hG.1 _ _ hd
  rw [ent_o] at hat
  exact va_get (ws := [(L (100 * C + 99) k, .inr (vix C, ofl L σ C k))]) X.1 X.2.1 X.2.2.2.2 kc.2.1 X.2.2.2.1 hK (fun j q hq => by
    have hj : j = 0 := by have := (List.getElem?_eq_some_iff.mp hq).1; simp at this; exact this
    subst hj
    cases hq
    exact hat) 0 rfl kc.1 f hf (X.2.2.2.2 _ hlink) hsame (ofl_get hf hv) hdg kk
theorem pw_putR (X : CallFix p m c cc nL s args TB own) (hK : KK D cI cZ cO s) {C : Nat} {RC : String} {T : u_T} {ty : Nat → FieldType} (kc : KC C RC T ty) {a : Nat} {fs : List Value} (hat : va_at D vwCl (a, .inr (vix C, fs)) H) (hS : va_S A H0 H locs) (hA : A a) (f : Nat) (hf : f < (flds C).length) {index : Nat} {ref : String}
    (hlink : Cond.fieldLink own index ref (T f).2.1 (T f).2.2.1 ∈ TB) (hsame : ∀ x, s.fieldFound? (T f).1 (T f).2.1 (T f).2.2.1 = some x → s.fieldFound? ref (T f).2.1 (T f).2.2.1 = some x) (hfin : (T f).2.2.2 = false) {tv : FieldType} {v : Value} (hdsc : parseFieldDescriptor (T f).2.2.1 = some tv) (hn : narrow tv v = v) (hfit : fits tv v = true) (hl : f < fs.length) (hdg : decode cc pc = .ok (.putfield index, 3))
    (kk : ∀ (H1 : Heap) (locs1 : List Loc), va_at D vwCl (a, .inr (vix C, fs.set f v)) H1 → H1.size = H.size → (∀ q, q ≠ a → H1[q]? = H[q]?) → va_S A H0 H1 locs1 → W p l e R s m args below meth c H1 locs1 cells slots Q (F0 m (pc + 3) ls rest)) : W p l e R s m args below meth c H locs cells slots Q (F0 m pc ls (v :: .ref a :: rest)) := by
  have hc := kc.1
  have hap := va_apart (own := own) X.2.2.2.2 kc.2.1 ty kc.2.2.1 kc.2.2.2 hK hc
  obtain ⟨r, h1, cell, q1, q2, q3, q4⟩ := hat
  have hr : r = (RC, T, (flds C).length) := Option.some.inj (h1.symm.trans hc)
  subst hr
  obtain ⟨hSl, hfc, kC, hkC, hkind⟩ := hK.1 (vix C) _ hc
  obtain ⟨cf, kf, fi, fd, hi, hsl⟩ := hSl f hf
  have hlay := X.2.2.2.2 _ (kc.2.1 _ (u_in_lay hf))
  unfold u_lay at hlay
  rw [if_neg (by rw [hfin]; decide)] at hlay
  have hst := (u_facts hfc hkC (u_lays X.2.2.2.2 kc.2.1 hf) hi).1
  have h6 := u_store hfc hkC hkind hlay hi hdsc hn hfit
  refine W.putK X.1 X.2.1 (f := fd) ⟨X.2.2.2.1, X.2.2.2.2 _ hlink, ⟨_, _, _, hsame _ hi⟩, hst⟩ (by rw [q2]; exact h6) q1 q3 (by rw [hsl]; exact k2_hasslot (q4 f hf)) rfl rfl hdg fun H' e1 e2 e3 => ?_
  rw [hsl] at e1 ⊢
  exact kk H' _ ⟨_, hc, t_OB.to (V := updV (vp_V fs) f v) ⟨_, e1, q2, q3, t_set q4 hap hf v⟩ (fun j _ => vp_updV_set hl v j)⟩ e2 e3 (hS.put e2 e3 hA)
theorem ofl_len {L : Lay} {σ : St} {C k : Nat} : (ofl L σ C k).length = (flds C).length := by simp [ofl]
theorem pw_putN (X : CallFix p m c cc nL s args TB own) (hK : KK D cI cZ cO s) (hG : PW D cI cZ cO dom L σ ow H) (hS : va_S A H0 H locs) (hA : ∀ q, ow q → A q) {C : Nat} {RC : String} {T : u_T} {ty : Nat → FieldType} (kc : KC C RC T ty) (O F : Nat) (f : Nat) (hO : 100 * C + 99 = O) (hF : 100 * C + f = F) (hC : C < 10) {k : Nat} (hd : dom O k) (hf : f < (flds C).length) (hft : fty F = 0) {index : Nat} {ref : String}
    (hlink : Cond.fieldLink own index ref (T f).2.1 (T f).2.2.1 ∈ TB) (hsame : ∀ x, s.fieldFound? (T f).1 (T f).2.1 (T f).2.2.1 = some x → s.fieldFound? ref (T f).2.1 (T f).2.2.1 = some x) (hfin : (T f).2.2.2 = false) (hdsc : parseFieldDescriptor (T f).2.2.1 = some .int) {v : Nat} (hdg : decode cc pc = .ok (.putfield index, 3))
    (kk : ∀ (H1 : Heap) (locs1 : List Loc), PW D cI cZ cO dom L (wN σ F k v) ow H1 → va_S A H0 H1 locs1 → W p l e R s m args below meth c H1 locs1 cells slots Q (F0 m (pc + 3) ls rest)) : W p l e R s m args below meth c H locs cells slots Q (F0 m pc ls (.int (nI v) :: .ref (L O k) :: rest)) := by
  subst hO hF
  have hat := hG.1 _ _ hd
  rw [ent_o] at hat
  have h45 := flds_le C
  refine pw_putR X hK kc hat hS (hA _ (hG.2.2 _ _ hd)) f hf hlink hsame hfin hdsc rfl rfl (by rw [ofl_len]; exact hf) hdg fun H1 locs1 e1 e2 e3 e4 => kk H1 locs1 (hG.upd hd ?_ e3 (fun F' k' hn => ?_)) e4
  · have e9 : ofl L (wN σ (100 * C + f) k v) C k = (ofl L σ C k).set f (.int (nI v)) := by
      refine ofl_set hf (fun f' hne h9 => fval_n (up2_n (fun z => ?_)) rfl) ?_
      · exact hne (by have := z.1; omega)
      · unfold fval
        rw [if_pos hft]
        show Value.int (nI (up2 _ _ _ _ _ _)) = _
        rw [up2_s]
    rw [ent_o, e9]
    exact e1
  · exact ent_s (σ := σ) (σ' := wN σ (100 * C + f) k v) (C := C) (f := f) (k := k) (by omega) hC (fun F9 k9 h9 => up2_n h9) (fun F9 k9 h9 => rfl) rfl hn
theorem pw_putI (X : CallFix p m c cc nL s args TB own) (hK : KK D cI cZ cO s) (hG : PW D cI cZ cO dom L σ ow H) (hS : va_S A H0 H locs) (hA : ∀ q, ow q → A q) {C : Nat} {RC : String} {T : u_T} {ty : Nat → FieldType} (kc : KC C RC T ty) (O F : Nat) (f : Nat) (hO : 100 * C + 99 = O) (hF : 100 * C + f = F) (hC : C < 10) {k : Nat} (hd : dom O k) (hf : f < (flds C).length) (hft : fty F = 1) {index : Nat} {ref : String}
    (hlink : Cond.fieldLink own index ref (T f).2.1 (T f).2.2.1 ∈ TB) (hsame : ∀ x, s.fieldFound? (T f).1 (T f).2.1 (T f).2.2.1 = some x → s.fieldFound? ref (T f).2.1 (T f).2.2.1 = some x) (hfin : (T f).2.2.2 = false) {tv : FieldType} (hdsc : parseFieldDescriptor (T f).2.2.1 = some tv) {v : Int32} (hn : narrow tv (.int v) = .int v) (hfit : fits tv (.int v) = true) (hdg : decode cc pc = .ok (.putfield index, 3))
    (kk : ∀ (H1 : Heap) (locs1 : List Loc), PW D cI cZ cO dom L (wI σ F k v) ow H1 → va_S A H0 H1 locs1 → W p l e R s m args below meth c H1 locs1 cells slots Q (F0 m (pc + 3) ls rest)) : W p l e R s m args below meth c H locs cells slots Q (F0 m pc ls (.int v :: .ref (L O k) :: rest)) := by
  subst hO hF
  have hat := hG.1 _ _ hd
  rw [ent_o] at hat
  have h45 := flds_le C
  refine pw_putR X hK kc hat hS (hA _ (hG.2.2 _ _ hd)) f hf hlink hsame hfin hdsc hn hfit (by rw [ofl_len]; exact hf) hdg fun H1 locs1 e1 e2 e3 e4 => kk H1 locs1 (hG.upd hd ?_ e3 (fun F' k' hn => ?_)) e4
  · have e9 : ofl L (wI σ (100 * C + f) k v) C k = (ofl L σ C k).set f (.int v) := by
      refine ofl_set hf (fun f' hne h9 => fval_n rfl (up2_n (fun z => ?_))) ?_
      · exact hne (by have := z.1; omega)
      · unfold fval
        rw [if_neg (by rw [hft]; decide), if_pos hft]
        show Value.int (up2 _ _ _ _ _ _) = _
        rw [up2_s]
    rw [ent_o, e9]
    exact e1
  · exact ent_s (σ := σ) (σ' := wI σ (100 * C + f) k v) (C := C) (f := f) (k := k) (by omega) hC (fun F9 k9 h9 => rfl) (fun F9 k9 h9 => up2_n h9) rfl hn
theorem va_P1 {D : va_G} {cl : List vw_C} {a : Nat} {x : va_E} {H : Heap} (h : va_at D cl (a, x) H) : va_P D cl [(a, x)] H := fun j q hq => by
  have hj : j = 0 := by have := (List.getElem?_eq_some_iff.mp hq).1; simp at this; exact this
  subst hj
  cases hq
  exact h
theorem ent_2 {F k : Nat} (h9 : F % 100 ≠ 99) (h10 : F < 1000) (h : fty F = 2) : ent cI cZ cO L σ F k = .inl (cI, flen F, .inl (fun i => nI (σ.2.2.1 F k i))) := by
  unfold ent
  rw [if_neg h9, if_neg (by omega), if_pos h]
theorem ent_3 {F k : Nat} (h9 : F % 100 ≠ 99) (h10 : F < 1000) (h : fty F = 3) : ent cI cZ cO L σ F k = .inl (cI, flen F, .inl (σ.2.2.2 F k)) := by
  unfold ent
  rw [if_neg h9, if_neg (by omega), if_neg (by omega), if_neg (by omega), if_neg (by omega)]
theorem ent_4 {F k : Nat} (h9 : F % 100 ≠ 99) (h10 : F < 1000) (h : fty F = 4) : ent cI cZ cO L σ F k = .inl (cZ, flen F, .inr (.inl (fun i => lJ (σ.2.2.1 F k i)))) := by
  unfold ent
  rw [if_neg h9, if_neg (by omega), if_neg (by omega), if_pos h]
/-- what a row's label is: its kind, and that it is a row -/
def FA (F t : Nat) : Prop := F % 100 ≠ 99 ∧ F < 1000 ∧ fty F = t
theorem pw_aldN (X : CallFix p m c cc nL s args TB own) (hK : KK D cI cZ cO s) (hG : PW D cI cZ cO dom L σ ow H) (F : Nat) (hF : FA F 2) {k : Nat} (hd : dom F k) {i x N : Nat} (hN : flen F = N) (hi : i < N) (hs : N < 2 ^ 31) (hv : σ.2.2.1 F k i = x) (hdg : decode cc pc = .ok (.iaload, 1))
    (kk : W p l e R s m args below meth c H locs cells slots Q (F0 m (pc + 1) ls (.int (nI x) :: rest))) : W p l e R s m args below meth c H locs cells slots Q (F0 m pc ls (.int (nI i) :: .ref (L F k) :: rest)) := by
  subst hv
  have hat := hG.1 _ _ hd
  rw [ent_2 hF.1 hF.2.1 hF.2.2, hN] at hat
  refine va_iald X.1 X.2.1 hK (va_P1 hat) 0 0 rfl rfl (vp_in_nI hi hs) hdg ?_
  rw [nI_clamp (by omega)]
  exact kk
theorem pw_aldI (X : CallFix p m c cc nL s args TB own) (hK : KK D cI cZ cO s) (hG : PW D cI cZ cO dom L σ ow H) (F : Nat) (hF : FA F 3) {k : Nat} (hd : dom F k) {i N : Nat} {x : Int32} (hN : flen F = N) (hi : i < N) (hs : N < 2 ^ 31) (hv : σ.2.2.2 F k i = x) (hdg : decode cc pc = .ok (.iaload, 1))
    (kk : W p l e R s m args below meth c H locs cells slots Q (F0 m (pc + 1) ls (.int x :: rest))) : W p l e R s m args below meth c H locs cells slots Q (F0 m pc ls (.int (nI i) :: .ref (L F k) :: rest)) := by
  subst hv
  have hat := hG.1 _ _ hd
  rw [ent_3 hF.1 hF.2.1 hF.2.2, hN] at hat
  refine va_iald X.1 X.2.1 hK (va_P1 hat) 0 0 rfl rfl (vp_in_nI hi hs) hdg ?_
  rw [nI_clamp (by omega)]
  exact kk
theorem pw_aldJ (X : CallFix p m c cc nL s args TB own) (hK : KK D cI cZ cO s) (hG : PW D cI cZ cO dom L σ ow H) (F : Nat) (hF : FA F 4) {k : Nat} (hd : dom F k) {i N : Nat} {x : Nat} (hN : flen F = N) (hi : i < N) (hs : N < 2 ^ 31) (hv : σ.2.2.1 F k i = x) (hdg : decode cc pc = .ok (.laload, 1))
    (kk : W p l e R s m args below meth c H locs cells slots Q (F0 m (pc + 1) ls (.long (lJ x) :: rest))) : W p l e R s m args below meth c H locs cells slots Q (F0 m pc ls (.int (nI i) :: .ref (L F k) :: rest)) := by
  subst hv
  have hat := hG.1 _ _ hd
  rw [ent_4 hF.1 hF.2.1 hF.2.2, hN] at hat
  refine va_lald X.1 X.2.1 hK (va_P1 hat) 0 1 rfl rfl (vp_in_nI hi hs) hdg ?_
  rw [nI_clamp (by omega)]
  exact kk
theorem pw_alen (X : CallFix p m c cc nL s args TB own) (hK : KK D cI cZ cO s) (hG : PW D cI cZ cO dom L σ ow H) (F : Nat) (hF : FA F 2 ∨ FA F 3) {k : Nat} (hd : dom F k) {N : Nat} (hN : flen F = N) (hdg : decode cc pc = .ok (.arraylength, 1))
    (kk : W p l e R s m args below meth c H locs cells slots Q (F0 m (pc + 1) ls (.int (nI N) :: rest))) : W p l e R s m args below meth c H locs cells slots Q (F0 m pc ls (.ref (L F k) :: rest)) := by
  have hat := hG.1 _ _ hd
  rcases hF with hF | hF
  · rw [ent_2 hF.1 hF.2.1 hF.2.2, hN] at hat
    exact va_alen X.1 X.2.1 hK (va_P1 hat) 0 0 rfl rfl rfl hdg kk
  · rw [ent_3 hF.1 hF.2.1 hF.2.2, hN] at hat
    exact va_alen X.1 X.2.1 hK (va_P1 hat) 0 0 rfl rfl rfl hdg kk
/-- a store into an int row, and all that stays -/
theorem pw_iastR (X : CallFix p m c cc nL s args TB own) (hK : KK D cI cZ cO s) {a n : Nat} {f : Nat → Int32} (hat : va_at D vwCl (a, .inl (cI, n, .inl f)) H) (hS : va_S A H0 H locs) (hA : A a) {i : Int32} {x : Int32} (hin : vp_in i n) (hdg : decode cc pc = .ok (.iastore, 1))
    (kk : ∀ (H1 : Heap) (locs1 : List Loc), va_at D vwCl (a, .inl (cI, n, .inl (up1 f i.toNatClampNeg x))) H1 → (∀ q, q ≠ a → H1[q]? = H[q]?) → va_S A H0 H1 locs1 → W p l e R s m args below meth c H1 locs1 cells slots Q (F0 m (pc + 1) ls rest)) : W p l e R s m args below meth c H locs cells slots Q (F0 m pc ls (.int x :: .int i :: .ref a :: rest)) := by
  refine W.iast X.1 X.2.1 hat ((hK.2 0 _ rfl).1 n (fun j => .int (f j))) (fun q => by cases q) (by show ¬ (i < 0 ∨ (arrV _ _ _).slots.size ≤ _); rw [arrV_size]; exact hin) rfl rfl hdg fun H1 e1 z oq => ?_
  refine kk H1 _ ?_ oq (hS.put z oq hA)
  show H1[a]? = some (vp_cell _ _)
  rw [e1]
  rw [vp_cell_i, vp_cell_i, arrV_store]
  congr 2
  funext q
  by_cases hq : q = i.toNatClampNeg
  · subst hq
    simp [updV, up1]
  · simp [updV, up1, hq]
theorem pw_jastR (X : CallFix p m c cc nL s args TB own) (hK : KK D cI cZ cO s) {a n : Nat} {f : Nat → Int64} (hat : va_at D vwCl (a, .inl (cZ, n, .inr (.inl f))) H) (hS : va_S A H0 H locs) (hA : A a) {i : Int32} {x : Int64} (hin : vp_in i n) (hdg : decode cc pc = .ok (.lastore, 1))
    (kk : ∀ (H1 : Heap) (locs1 : List Loc), va_at D vwCl (a, .inl (cZ, n, .inr (.inl (up1 f i.toNatClampNeg x)))) H1 → (∀ q, q ≠ a → H1[q]? = H[q]?) → va_S A H0 H1 locs1 → W p l e R s m args below meth c H1 locs1 cells slots Q (F0 m (pc + 1) ls rest)) : W p l e R s m args below meth c H locs cells slots Q (F0 m pc ls (.long x :: .int i :: .ref a :: rest)) := by
  refine W.last X.1 X.2.1 hat ((hK.2 1 _ rfl).1 n (fun j => .long (f j))) (fun q => by cases q) (by show ¬ (i < 0 ∨ (arrV _ _ _).slots.size ≤ _); rw [arrV_size]; exact hin) rfl rfl hdg fun H1 e1 z oq => ?_
  refine kk H1 _ ?_ oq (hS.put z oq hA)
  show H1[a]? = some (vp_cell _ _)
  rw [e1]
  rw [vp_cell_l, vp_cell_l, arrV_store]
  congr 2
  funext q
  by_cases hq : q = i.toNatClampNeg
  · subst hq
    simp [updV, up1]
  · simp [updV, up1, hq]
theorem pw_astN (X : CallFix p m c cc nL s args TB own) (hK : KK D cI cZ cO s) (hG : PW D cI cZ cO dom L σ ow H) (hS : va_S A H0 H locs) (hA : ∀ q, ow q → A q) (F : Nat) (hF : FA F 2) {k : Nat} (hd : dom F k) {i x N : Nat} (hN : flen F = N) (hi : i < N) (hs : N < 2 ^ 31) (hdg : decode cc pc = .ok (.iastore, 1))
    (kk : ∀ (H1 : Heap) (locs1 : List Loc), PW D cI cZ cO dom L (wA σ F k i x) ow H1 → va_S A H0 H1 locs1 → W p l e R s m args below meth c H1 locs1 cells slots Q (F0 m (pc + 1) ls rest)) : W p l e R s m args below meth c H locs cells slots Q (F0 m pc ls (.int (nI x) :: .int (nI i) :: .ref (L F k) :: rest)) := by
  have hat := hG.1 _ _ hd
  rw [ent_2 hF.1 hF.2.1 hF.2.2, hN] at hat
  refine pw_iastR X hK hat hS (hA _ (hG.2.2 _ _ hd)) (vp_in_nI hi hs) hdg fun H1 locs1 e1 e3 e4 => kk H1 locs1 (hG.upd hd ?_ e3 (fun F' k' hn => ?_)) e4
  · rw [ent_2 hF.1 hF.2.1 hF.2.2, hN]
    rw [nI_clamp (by omega)] at e1
    have : (fun j => nI ((wA σ F k i x).2.2.1 F k j)) = up1 (fun j => nI (σ.2.2.1 F k j)) i (nI x) := by
      funext j
      show nI (up3 _ _ _ _ _ _ _ _) = _
      rw [up3_s]
      by_cases hj : j = i
      · subst hj; rw [up1_s, up1_s]
      · rw [up1_n hj, up1_n hj]
    rw [this]
    exact e1
  · exact ent_a (σ := σ) (σ' := wA σ F k i x) (F := F) (k := k) hF.2.1 rfl rfl (fun F9 k9 h9 => up3_n h9) (fun _ _ _ => rfl) hn
theorem pw_astI (X : CallFix p m c cc nL s args TB own) (hK : KK D cI cZ cO s) (hG : PW D cI cZ cO dom L σ ow H) (hS : va_S A H0 H locs) (hA : ∀ q, ow q → A q) (F : Nat) (hF : FA F 3) {k : Nat} (hd : dom F k) {i N : Nat} {x : Int32} (hN : flen F = N) (hi : i < N) (hs : N < 2 ^ 31) (hdg : decode cc pc = .ok (.iastore, 1))
    (kk : ∀ (H1 : Heap) (locs1 : List Loc), PW D cI cZ cO dom L (wB σ F k i x) ow H1 → va_S A H0 H1 locs1 → W p l e R s m args below meth c H1 locs1 cells slots Q (F0 m (pc + 1) ls rest)) : W p l e R s m args below meth c H locs cells slots Q (F0 m pc ls (.int x :: .int (nI i) :: .ref (L F k) :: rest)) := by
  have hat := hG.1 _ _ hd
  rw [ent_3 hF.1 hF.2.1 hF.2.2, hN] at hat
  refine pw_iastR X hK hat hS (hA _ (hG.2.2 _ _ hd)) (vp_in_nI hi hs) hdg fun H1 locs1 e1 e3 e4 => kk H1 locs1 (hG.upd hd ?_ e3 (fun F' k' hn => ?_)) e4
  · rw [ent_3 hF.1 hF.2.1 hF.2.2, hN]
    rw [nI_clamp (by omega)] at e1
    rw [show (wB σ F k i x).2.2.2 F k = up1 (σ.2.2.2 F k) i x from up3_s]
    exact e1
  · exact ent_a (σ := σ) (σ' := wB σ F k i x) (F := F) (k := k) hF.2.1 rfl rfl (fun _ _ _ => rfl) (fun F9 k9 h9 => up3_n h9) hn
theorem pw_astJ (X : CallFix p m c cc nL s args TB own) (hK : KK D cI cZ cO s) (hG : PW D cI cZ cO dom L σ ow H) (hS : va_S A H0 H locs) (hA : ∀ q, ow q → A q) (F : Nat) (hF : FA F 4) {k : Nat} (hd : dom F k) {i N : Nat} {x : Nat} (hN : flen F = N) (hi : i < N) (hs : N < 2 ^ 31) (hdg : decode cc pc = .ok (.lastore, 1))
    (kk : ∀ (H1 : Heap) (locs1 : List Loc), PW D cI cZ cO dom L (wA σ F k i x) ow H1 → va_S A H0 H1 locs1 → W p l e R s m args below meth c H1 locs1 cells slots Q (F0 m (pc + 1) ls rest)) : W p l e R s m args below meth c H locs cells slots Q (F0 m pc ls (.long (lJ x) :: .int (nI i) :: .ref (L F k) :: rest)) := by
  have hat := hG.1 _ _ hd
  rw [ent_4 hF.1 hF.2.1 hF.2.2, hN] at hat
  refine pw_jastR X hK hat hS (hA _ (hG.2.2 _ _ hd)) (vp_in_nI hi hs) hdg fun H1 locs1 e1 e3 e4 => kk H1 locs1 (hG.upd hd ?_ e3 (fun F' k' hn => ?_)) e4
  · rw [ent_4 hF.1 hF.2.1 hF.2.2, hN]
    rw [nI_clamp (by omega)] at e1
    have : (fun j => lJ ((wA σ F k i x).2.2.1 F k j)) = up1 (fun j => lJ (σ.2.2.1 F k j)) i (lJ x) := by
      funext j
      show lJ (up3 _ _ _ _ _ _ _ _) = _
      rw [up3_s]
      by_cases hj : j = i
      · subst hj; rw [up1_s, up1_s]
      · rw [up1_n hj, up1_n hj]
    rw [this]
    exact e1
  · exact ent_a (σ := σ) (σ' := wA σ F k i x) (F := F) (k := k) hF.2.1 rfl rfl (fun F9 k9 h9 => up3_n h9) (fun _ _ _ => rfl) hn
theorem ent_8 {F k : Nat} (h9 : F % 100 ≠ 99) (h10 : F < 1000) (h : fty F = 8) : ent cI cZ cO L σ F k = .inl (cI, σ.2.2.1 F k 0, .inl (σ.2.2.2 F k)) := by
  unfold ent
  rw [if_neg h9, if_neg (by omega), if_neg (by omega), if_neg (by omega), if_pos h]
theorem pw_ald8 (X : CallFix p m c cc nL s args TB own) (hK : KK D cI cZ cO s) (hG : PW D cI cZ cO dom L σ ow H) (F : Nat) (hF : FA F 8) {k : Nat} (hd : dom F k) {i N : Nat} {x : Int32} (hN : σ.2.2.1 F k 0 = N) (hi : i < N) (hs : N < 2 ^ 31) (hv : σ.2.2.2 F k i = x) (hdg : decode cc pc = .ok (.iaload, 1))
    (kk : W p l e R s m args below meth c H locs cells slots Q (F0 m (pc + 1) ls (.int x :: rest))) : W p l e R s m args below meth c H locs cells slots Q (F0 m pc ls (.int (nI i) :: .ref (L F k) :: rest)) := by
  subst hv
  have hat := hG.1 _ _ hd
  rw [ent_8 hF.1 hF.2.1 hF.2.2, hN] at hat
  refine va_iald X.1 X.2.1 hK (va_P1 hat) 0 0 rfl rfl (vp_in_nI hi hs) hdg ?_
  rw [nI_clamp (by omega)]
  exact kk
theorem pw_alen8 (X : CallFix p m c cc nL s args TB own) (hK : KK D cI cZ cO s) (hG : PW D cI cZ cO dom L σ ow H) (F : Nat) (hF : FA F 8) {k : Nat} (hd : dom F k) {N : Nat} (hN : σ.2.2.1 F k 0 = N) (hdg : decode cc pc = .ok (.arraylength, 1))
    (kk : W p l e R s m args below meth c H locs cells slots Q (F0 m (pc + 1) ls (.int (nI N) :: rest))) : W p l e R s m args below meth c H locs cells slots Q (F0 m pc ls (.ref (L F k) :: rest)) := by
  have hat := hG.1 _ _ hd
  rw [ent_8 hF.1 hF.2.1 hF.2.2, hN] at hat
  exact va_alen X.1 X.2.1 hK (va_P1 hat) 0 0 rfl rfl rfl hdg kk
theorem pw_ast8 (X : CallFix p m c cc nL s args TB own) (hK : KK D cI cZ cO s) (hG : PW D cI cZ cO dom L σ ow H) (hS : va_S A H0 H locs) (hA : ∀ q, ow q → A q) (F : Nat) (hF : FA F 8) {k : Nat} (hd : dom F k) {i N : Nat} {x : Int32} (hN : σ.2.2.1 F k 0 = N) (hi : i < N) (hs : N < 2 ^ 31) (hdg : decode cc pc = .ok (.iastore, 1))
    (kk : ∀ (H1 : Heap) (locs1 : List Loc), PW D cI cZ cO dom L (wB σ F k i x) ow H1 → va_S A H0 H1 locs1 → W p l e R s m args below meth c H1 locs1 cells slots Q (F0 m (pc + 1) ls rest)) : W p l e R s m args below meth c H locs cells slots Q (F0 m pc ls (.int x :: .int (nI i) :: .ref (L F k) :: rest)) := by
  have hat := hG.1 _ _ hd
  rw [ent_8 hF.1 hF.2.1 hF.2.2, hN] at hat
  refine pw_iastR X hK hat hS (hA _ (hG.2.2 _ _ hd)) (vp_in_nI hi hs) hdg fun H1 locs1 e1 e3 e4 => kk H1 locs1 (hG.upd hd ?_ e3 (fun F' k' hn => ?_)) e4
  · rw [ent_8 hF.1 hF.2.1 hF.2.2]
    rw [nI_clamp (by omega)] at e1
    rw [show (wB σ F k i x).2.2.2 F k = up1 (σ.2.2.2 F k) i x from up3_s, show (wB σ F k i x).2.2.1 F k 0 = N from hN]
    exact e1
  · exact ent_a (σ := σ) (σ' := wB σ F k i x) (F := F) (k := k) hF.2.1 rfl rfl (fun _ _ _ => rfl) (fun F9 k9 h9 => up3_n h9) hn
end WR
