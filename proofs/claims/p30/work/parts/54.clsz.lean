/-! MAKING OBJECTS of the class: the new object's labels, beside the world -/
def wRA (σ : St) (F k : Nat) (f : Nat → Nat) : St := (σ.1, σ.2.1, up2 σ.2.2.1 F k f, σ.2.2.2)
def Off (C k : Nat) (σ σ' : St) : Prop := ∀ F q, ¬ (F / 100 = C ∧ q = k) → (σ'.1 F q = σ.1 F q ∧ σ'.2.1 F q = σ.2.1 F q) ∧ σ'.2.2.1 F q = σ.2.2.1 F q ∧ σ'.2.2.2 F q = σ.2.2.2 F q
theorem Off.rf {C k : Nat} {σ : St} : Off C k σ σ := fun _ _ _ => ⟨⟨rfl, rfl⟩, rfl, rfl⟩
theorem Off.tr {C k : Nat} {σ σ1 σ2 : St} (h : Off C k σ σ1) (g : Off C k σ1 σ2) : Off C k σ σ2 := fun F q z => ⟨⟨((g F q z).1.1).trans (h F q z).1.1, ((g F q z).1.2).trans (h F q z).1.2⟩, ((g F q z).2.1).trans (h F q z).2.1, ((g F q z).2.2).trans (h F q z).2.2⟩
theorem off_wN {C k F0 v : Nat} {σ : St} (h : F0 / 100 = C) : Off C k σ (wN σ F0 k v) := fun F q z => ⟨⟨up2_n (fun y => z ⟨by rw [y.1]; exact h, y.2⟩), rfl⟩, rfl, rfl⟩
theorem off_wI {C k F0 : Nat} {v : Int32} {σ : St} (h : F0 / 100 = C) : Off C k σ (wI σ F0 k v) := fun F q z => ⟨⟨rfl, up2_n (fun y => z ⟨by rw [y.1]; exact h, y.2⟩)⟩, rfl, rfl⟩
theorem off_wR {C k F0 : Nat} {f : Nat → Int32} {σ : St} (h : F0 / 100 = C) : Off C k σ (wR σ F0 k f) := fun F q z => ⟨⟨rfl, rfl⟩, rfl, up2_n (fun y => z ⟨by rw [y.1]; exact h, y.2⟩)⟩
theorem off_wRA {C k F0 : Nat} {f : Nat → Nat} {σ : St} (h : F0 / 100 = C) : Off C k σ (wRA σ F0 k f) := fun F q z => ⟨⟨rfl, rfl⟩, up2_n (fun y => z ⟨by rw [y.1]; exact h, y.2⟩), rfl⟩
theorem off_wB {C k F0 i : Nat} {v : Int32} {σ : St} (h : F0 / 100 = C) : Off C k σ (wB σ F0 k i v) := fun F q z => ⟨⟨rfl, rfl⟩, rfl, up3_n (fun y => z ⟨by rw [y.1]; exact h, y.2⟩)⟩
theorem off_fill {C k F0 : Nat} {v : Int32} (h : F0 / 100 = C) : ∀ (n : Nat) {σ : St}, Off C k σ (m_fill F0 k v n σ) := fun n => by
  induction n with
  | zero => exact Off.rf
  | succ n ih => exact ih.tr (off_wB h)
theorem ftg5 : ∀ F, F < 1100 → fty F = 5 → 600 ≤ (ftg F).1 := by decide +kernel
theorem ftg_600 {F : Nat} (h : fty F = 5) : 600 ≤ (ftg F).1 := by
  by_cases c : F < 1100
  · exact ftg5 F c h
  · exfalso
    unfold fty at h
    have : flds (F / 100) = [] := by
      unfold flds
      split <;> first | omega | rfl
    rw [this] at h
    exact absurd (show (9 : Nat) = 5 from h) (by decide)
section NEWs
variable {D : va_G} {cI cZ cO : ClassId} {dom dom' : Nat → Nat → Prop} {L L' : Lay} {σ σ' : St} {ow ow' A : Nat → Prop} {H H0 : Heap} {t0 mi : Nat}
theorem ent_far {C k : Nat} (hC : C ≤ 5) (hL : ∀ F q, ¬ (F / 100 = C ∧ q = k) → L' F q = L F q) (ho : Off C k σ σ') {F q : Nat} (h : ¬ (F / 100 = C ∧ q = k)) (hel : F = 1001 → ∀ i, i < σ.1 1002 q → ¬ (fel q / 100 = C ∧ σ.2.2.1 1001 q i = k)) : ent cI cZ cO L' σ' F q = ent cI cZ cO L σ F q := by
  unfold ent
  by_cases e : F % 100 = 99
  · rw [if_pos e, if_pos e]
    have : ofl L' σ' (F / 100) q = ofl L σ (F / 100) q := by
      unfold ofl
      refine List.map_congr_left (fun f hf => ?_)
      have h3 := List.mem_range.mp hf
      have h4 := flds_le (F / 100)
      have hn : ¬ ((100 * (F / 100) + f) / 100 = C ∧ q = k) := fun z => h ⟨by omega, z.2⟩
      unfold fval
      rw [(ho _ _ hn).1.1, (ho _ _ hn).1.2, hL _ _ hn]
      by_cases h5 : fty (100 * (F / 100) + f) = 5
      · have := ftg_600 h5
        rw [hL (ftg (100 * (F / 100) + f)).1 _ (fun z => by omega)]
      · rw [if_neg h5, if_neg h5]
    rw [this]
  · rw [if_neg e, if_neg e]
    by_cases e1 : F = 1001
    · rw [if_pos e1, if_pos e1]
      have e2 := (ho 1002 q (fun z => by omega)).1.1
      have e3 := (ho 1003 q (fun z => by omega)).1.1
      have eA := (ho 1001 q (fun z => by omega)).2.1
      have : lrefs L' σ' q = lrefs L σ q := funext fun i => by
        unfold lrefs
        rw [e2, eA]
        by_cases c : i < σ.1 1002 q
        · rw [if_pos c, if_pos c, hL _ _ (hel e1 i c)]
        · rw [if_neg c, if_neg c]
      rw [this, e3]
    · rw [if_neg e1, if_neg e1, (ho F q h).2.1, (ho F q h).2.2]
theorem PW.cong (h : PW D cI cZ cO dom L σ ow H) (he : ∀ F k, dom F k → ent cI cZ cO L' σ' F k = ent cI cZ cO L σ F k ∧ L' F k = L F k) : PW D cI cZ cO dom L' σ' ow H :=
  ⟨fun F k hd => by rw [(he F k hd).1, (he F k hd).2]; exact h.1 F k hd, fun F k F' k' hd hd' e => h.2.1 F k F' k' hd hd' (by rw [← (he F k hd).2, ← (he F' k' hd').2]; exact e), fun F k hd => by rw [(he F k hd).2]; exact h.2.2 F k hd⟩
theorem PW.join (h1 : PW D cI cZ cO dom L σ ow H) (h2 : PW D cI cZ cO dom' L σ ow' H) (hd : ∀ F k F' k', dom F k → dom' F' k' → L F k ≠ L F' k') : PW D cI cZ cO (fun F k => dom F k ∨ dom' F k) L σ (fun q => ow q ∨ ow' q) H :=
  ⟨fun F k z => z.elim (h1.1 F k) (h2.1 F k), fun F k F' k' z z' e => z.elim (fun a => z'.elim (fun b => h1.2.1 F k F' k' a b e) (fun b => absurd e (hd F k F' k' a b))) (fun a => z'.elim (fun b => absurd e.symm (hd F' k' F k b a)) (fun b => h2.2.1 F k F' k' a b e)), fun F k z => z.elim (fun a => Or.inl (h1.2.2 F k a)) (fun a => Or.inr (h2.2.2 F k a))⟩
/-- the world, beside an object that is not there yet -/
theorem cw_far {C k j : Nat} (hC5 : C ≤ 5) (hj : cj C = j) (hk : σ.1 1002 j ≤ k) (hI : CI σ) (hG : PW D cI cZ cO (cdom σ) L σ ow H) (hL : ∀ F q, ¬ (F / 100 = C ∧ q = k) → L' F q = L F q) (ho : Off C k σ σ') : PW D cI cZ cO (cdom σ) L' σ' ow H := by
  have hfar : ∀ F q, cdom σ F q → ¬ (F / 100 = C ∧ q = k) := fun F q hd z => by
    rcases hd with ⟨-, h⟩ | ⟨h, -⟩ | ⟨h, -⟩ | ⟨h1, h2, h3⟩
    · have : 600 ≤ F := by
        have h9 : ([899, 806, 807, 808, 799, 702, 703, 699, 600, 601] : List Nat).all (fun F => decide (600 ≤ F)) = true := by decide
        exact of_decide_eq_true (List.all_eq_true.mp h9 F h)
      omega
    · omega
    · omega
    · rw [z.1, hj] at h3
      omega
  refine hG.cong (fun F q hd => ⟨ent_far hC5 hL ho (hfar F q hd) (fun e i hi z => ?_), hL F q (hfar F q hd)⟩)
  subst e
  have hq8 : q < 8 := by
    rcases hd with ⟨-, h⟩ | ⟨h, -⟩ | ⟨-, h, -⟩ | ⟨h1, -⟩
    · exact absurd h (by decide)
    · exact absurd h (by decide)
    · exact h
    · exact absurd h1 (by decide)
  obtain ⟨a, b, c⟩ := fel_lj q hq8
  have := hI.2 q hq8 i hi
  rw [← c, z.1, hj] at this
  omega
/-- a new object, put into its list -/
theorem xb_new {C k j b : Nat} {nl : List Nat} {sz : Nat} {σ9 : St} (hC5 : C ≤ 5) (hj : cj C = j) (hj8 : j < 8) (hj2 : j ≠ 2 ∧ j ≠ 7) (hk : k = σ.1 1002 j) (hC : CW D cI cZ cO t0 L σ ow H0) (hI : CI σ) (hinj : ∀ F, F < 600 → cj (F / 100) = j → F / 100 = C) (hnl : ∀ f, f < 100 → isL (100 * C + f) → 100 * C + f ∈ nl) (ho : Off C k σ σ9) (hL : ∀ F q, ¬ (F / 100 = C ∧ q = k) → L' F q = L F q)
    (hG : PW D cI cZ cO (fun F q => (cdom σ F q ∨ (F, q) ∈ nl.map (fun F => (F, k))) ∨ (F = 1001 ∧ q = j)) (up2 L' 1001 j b) (ladd j k σ9) ow' H) (hO : ∀ q, ow' q → AA ow sz q) : XB D cI cZ cO t0 L σ ow sz (ladd j k σ9) H := by
  have h2 : ∀ q, q ≠ j → (ladd j k σ9).1 1002 q = σ.1 1002 q := fun q e => (((ladd_off j k b L σ9).1 1002 q (fun z => e z.2)).1).trans (ho 1002 q (fun z => by omega)).1.1
  have h2j : (ladd j k σ9).1 1002 j = k + 1 := by rw [ladd_N, (ho 1002 j (fun z => by omega)).1.1, hk]
  have h3 : ∀ q, q ≠ j → (ladd j k σ9).1 1003 q = σ.1 1003 q := fun q e => (((ladd_off j k b L σ9).1 1003 q (fun z => e z.2)).1).trans (ho 1003 q (fun z => by omega)).1.1
  have hnc := hI.1 j hj8
  have h3j : (ladd j k σ9).1 1003 j = lcap (σ.1 1002 j) (σ.1 1003 j) := by rw [ladd_C, (ho 1002 j (fun z => by omega)).1.1, (ho 1003 j (fun z => by omega)).1.1]
  refine ⟨up2 L' 1001 j b, ow', fun F q hd hF => ?_, hO, hG.mono (fun F q hd => ?_), fun q hq h => ?_⟩
  · rw [up2_n (fun z => hF z.1)]
    refine hL F q (fun z => ?_)
    rcases hd with ⟨-, h⟩ | ⟨h, -⟩ | ⟨h, -⟩ | ⟨h1, h2, h3⟩
    · have : 600 ≤ F := by
        have h9 : ([899, 806, 807, 808, 799, 702, 703, 699, 600, 601] : List Nat).all (fun F => decide (600 ≤ F)) = true := by decide
        exact of_decide_eq_true (List.all_eq_true.mp h9 F h)
      omega
    · omega
    · omega
    · rw [z.1, hj] at h3
      omega
  · rcases hd with h | h | ⟨h, h8, hc⟩ | ⟨h, hl, hc⟩
    · exact Or.inl (Or.inl (Or.inl h))
    · exact Or.inl (Or.inl (Or.inr (Or.inl h)))
    · by_cases e : q = j
      · exact Or.inr ⟨h, e⟩
      · rw [h3 q e] at hc
        exact Or.inl (Or.inl (Or.inr (Or.inr (Or.inl ⟨h, h8, hc⟩))))
    · by_cases e : cj (F / 100) = j
      · have hFC := hinj F h e
        rw [e, h2j] at hc
        by_cases e2 : q = k
        · subst e2
          have := hnl (F % 100) (Nat.mod_lt _ (by decide)) (by rw [← hFC, Nat.div_add_mod]; exact hl)
          rw [← hFC, Nat.div_add_mod] at this
          exact Or.inl (Or.inr (List.mem_map.mpr ⟨F, this, rfl⟩))
        · exact Or.inl (Or.inl (Or.inr (Or.inr (Or.inr ⟨h, hl, by rw [e, ← hk]; omega⟩))))
      · rw [h2 _ e] at hc
        exact Or.inl (Or.inl (Or.inr (Or.inr (Or.inr ⟨h, hl, hc⟩))))
  · by_cases e : q = j
    · subst e
      rw [h3j] at h
      exfalso
      unfold lcap at h
      by_cases c : σ.1 1002 q = σ.1 1003 q
      · rw [if_pos c] at h
        by_cases c2 : σ.1 1003 q = 0
        · rw [if_pos c2] at h
          exact absurd h (by decide)
        · rw [if_neg c2] at h
          omega
      · rw [if_neg c] at h
        omega
    · rw [up2_n (fun z => e z.2), hL 1001 q (fun z => by omega)]
      exact hC.2 q hq (by rw [← h3 q e]; exact h)
variable {p : Program} {l : Launch} {e : Env} {R : Room} {s : State} {m : MethodId} {args : Array Value} {below : List Frame} {meth : Method} {c : Code} {locs : List Loc} {cells slots : Nat} {Q : State → Prop}
variable {cc : ByteArray} {pc nL : Nat} {ls : Array Slot} {rest st0 : List Value} {own : String}
theorem r_new (X : CallFix p m c cc nL s args TB own) (hK : KK D cI cZ cO s) {C : Nat} {RC : String} {T : u_T} {ty : Nat → FieldType} (kc : KC C RC T ty) {idx N : Nat} (hl : Cond.classLink own idx RC ∈ TB) (hN : (flds C).length = N) (hi : Cond.instantiable RC N ∈ TB) (hini : Cond.initialized RC ∈ TB) (hS : va_S A H0 H locs) (hdf : ∀ j, j < (flds C).length → defaultValue (ty j) = vp_V (dfs C) j) (hcells : cells + 1 ≤ R.cells) (hslots : slots + N ≤ R.slots) (d : decode cc pc = .ok (.new idx, 3))
    (kk : ∀ H1 : Heap, va_at D vwCl (H.size, .inr (vix C, dfs C)) H1 → H1.size = H.size + 1 → (∀ q, q < H.size → H1[q]? = H[q]?) → va_S A H0 H1 locs → W p l e R s m args below meth c H1 locs (cells + 1) (slots + N) Q (F0 m (pc + 3) ls (.ref H.size :: rest))) : W p l e R s m args below meth c H locs cells slots Q (F0 m pc ls rest) := by
  subst hN
  have hc := kc.1
  have hKn := hK.1 (vix C) _ hc
  refine W.newcK X.1 X.2.1 X.2.2.2.1 (X.2.2.2.2 _ hl) (X.2.2.2.2 _ hi) (X.2.2.2.2 _ hini) rfl d hcells hslots hKn.2.1 rfl fun H1 kC hkC e1 z1 o1 => ?_
  exact kk H1 ⟨_, hc, (u_born ty X.2.2.2.2 kc.2.1 hKn hkC e1 kc.2.2.1).to hdf⟩ z1 o1 ⟨by rw [z1]; have := hS.1; omega, fun q h1 h2 => (o1 q (Nat.lt_of_lt_of_le h1 hS.1)).trans (hS.2.1 q h1 h2), hS.2.2⟩
section
variable {y : MethodName} {b : ByteArray} {n na idx C a sz mc ms : Nat} {rm : Room} {As : List Value} {Pz : Nat → Prop}
theorem cp_pre (hK : KK D cI cZ cO s) (hat : va_at D vwCl (a, .inr (vix C, dfs C)) H) (hsz : H.size = sz) {av : List Value} : ∀ U : State, U.heap = H → s.WarmedH U.vm → CP D cI cZ cO a C sz av av.toArray U := fun U hU hW => ⟨rfl, by rw [hU]; exact hsz, va_K.moved hW.alike hK, by rw [hU]; exact hat⟩
theorem r_ctorI (X : CallFix p m c cc nL s args TB own) (hK : KK D cI cZ cO s) (hat : va_at D vwCl (a, .inr (vix C, dfs C)) H) (hsz : H.size = sz) (hS : va_S A H0 H locs) (hA : ∀ q, oN a sz q → A q) (h1 : Cond.instanceMethod y ∈ TB) (h2 : Cond.initialized y.cls ∈ TB) (h3 : Cond.code y b n none ∈ TB) (hl : Cond.methodLink own idx y ∈ TB) (hn : y.name = "<init>") (hd : y.cls ≠ "java/lang/invoke/MethodHandle" ∧ y.cls ≠ "java/lang/invoke/VarHandle" ∧ (parseMethodDescriptor y.desc).map (fun d => d.parameters.length) = some na)
    (hM : Met l y (wM y b n none) rm (CP D cI cZ cO a C sz (.ref a :: As)) (CQ D cI cZ cO dom L σ a sz Pz) mc ms (oN a sz)) (hrc : rm.cells = mc) (hrs : rm.slots = ms) (hst : st0 = As.reverse ++ .ref a :: rest) (hls : ls.size = nL) (hna : As.length = na) (hrm : (rest.map fun v => v.category).sum ≤ 8) (hR : rm.frames + 1 ≤ R.frames ∧ 8 + (n + 11) + rm.locals ≤ R.locals) (hc : cells + mc ≤ R.cells ∧ slots + ms ≤ R.slots) (d : decode cc pc = .ok (.invokespecial idx, 3))
    (kk : ∀ (H1 : Heap) (locs1 : List Loc), PW D cI cZ cO dom L σ (oN a sz) H1 → Pz H1.size → sz ≤ H1.size → (∀ q, q < sz → q ≠ a → H1[q]? = H[q]?) → va_S A H0 H1 locs1 → W p l e R s m args below meth c H1 locs1 (cells + mc) (slots + ms) Q (F0 m (pc + 3) ls rest)) : W p l e R s m args below meth c H locs cells slots Q (F0 m pc ls st0) := by
  subst hst hsz
  refine va_callv (va_runI (As := As) (rest := rest) X hM (yi_cw X.2.2.2.2 h1 h2 h3 hl hn hd hrc hrs hR) ⟨cp_blind, cp_pre hK hat rfl⟩ rfl hna hls rfl (lv_room hrm) d hc) hS (fun q _ h => hA q h) (fun q h => hA q h) ?_
  intro u t H1 locs1 ht _ _ hB hz hk hS1
  obtain ⟨hB1, hB2⟩ := hB
  rw [ht] at hB1 hB2
  exact kk H1 locs1 hB1 hB2 hz (fun q h1 h2 => hk q h1 (fun z => z.elim h2 (fun y => by omega))) hS1
theorem r_ctorN (X : CallFix p m c cc nL s args TB own) (hK : KK D cI cZ cO s) (hat : va_at D vwCl (a, .inr (vix C, dfs C)) H) (hsz : H.size = sz) (hS : va_S A H0 H locs) (hA : ∀ q, oN a sz q → A q) (h1 : Cond.instanceMethod y ∈ TB) (h2 : Cond.initialized y.cls ∈ TB) (h3 : Cond.code y b n none ∈ TB) {host : String} (hl : va_Nw (.methodLinkNest own idx y host) s) (hn : y.name = "<init>") (hd : y.cls ≠ "java/lang/invoke/MethodHandle" ∧ y.cls ≠ "java/lang/invoke/VarHandle" ∧ (parseMethodDescriptor y.desc).map (fun d => d.parameters.length) = some na)
    (hM : Met l y (wM y b n none) rm (CP D cI cZ cO a C sz (.ref a :: As)) (CQ D cI cZ cO dom L σ a sz Pz) mc ms (oN a sz)) (hrc : rm.cells = mc) (hrs : rm.slots = ms) (hst : st0 = As.reverse ++ .ref a :: rest) (hls : ls.size = nL) (hna : As.length = na) (hrm : (rest.map fun v => v.category).sum ≤ 8) (hR : rm.frames + 1 ≤ R.frames ∧ 8 + (n + 11) + rm.locals ≤ R.locals) (hc : cells + mc ≤ R.cells ∧ slots + ms ≤ R.slots) (d : decode cc pc = .ok (.invokespecial idx, 3))
    (kk : ∀ (H1 : Heap) (locs1 : List Loc), PW D cI cZ cO dom L σ (oN a sz) H1 → Pz H1.size → sz ≤ H1.size → (∀ q, q < sz → q ≠ a → H1[q]? = H[q]?) → va_S A H0 H1 locs1 → W p l e R s m args below meth c H1 locs1 (cells + mc) (slots + ms) Q (F0 m (pc + 3) ls rest)) : W p l e R s m args below meth c H locs cells slots Q (F0 m pc ls st0) := by
  subst hst hsz
  refine va_callv (va_runIN (As := As) (rest := rest) X hM ⟨va_cnB na X.2.2.2.2 (wm_in h3) rfl hrc hrs hl (X.2.2.2.2 _ h2) hd hR, hn, X.2.2.2.2 _ h1⟩ ⟨cp_blind, cp_pre hK hat rfl⟩ rfl hna hls rfl (lv_room hrm) d hc) hS (fun q _ h => hA q h) (fun q h => hA q h) ?_
  intro u t H1 locs1 ht _ _ hB hz hk hS1
  obtain ⟨hB1, hB2⟩ := hB
  rw [ht] at hB1 hB2
  exact kk H1 locs1 hB1 hB2 hz (fun q h1 h2 => hk q h1 (fun z => z.elim h2 (fun y => by omega))) hS1
end
end NEWs
def newL (C k a z o : Nat) (L : Lay) : Lay := fun F q => if F / 100 = C ∧ q = k then (if F % 100 = 99 then a else z + (F % 100 - o)) else L F q
theorem newL_o {C k a z o : Nat} {L : Lay} {F q : Nat} (h : ¬ (F / 100 = C ∧ q = k)) : newL C k a z o L F q = L F q := if_neg h
theorem newL_n {C k a z o : Nat} {L : Lay} {F : Nat} (h : F / 100 = C) : newL C k a z o L F k = if F % 100 = 99 then a else z + (F % 100 - o) := if_pos ⟨h, rfl⟩
theorem newL_ge {C k a z o : Nat} {L : Lay} {F : Nat} (haz : a < z) (h : F / 100 = C) : a ≤ newL C k a z o L F k := by rw [newL_n h]; split <;> omega
theorem lok_new {C k j t0 : Nat} {nl : List Nat} {L L' : Lay} {σ σ9 : St} (hC5 : C ≤ 5) (h : LOK (cdom σ) L σ t0 j) (ho : Off C k σ σ9) (hL : ∀ F q, ¬ (F / 100 = C ∧ q = k) → L' F q = L F q) (hnl : nl.all (fun F => decide (F < 600)) = true) : LOK (fun F q => cdom σ F q ∨ (F, q) ∈ nl.map (fun F => (F, k))) L' σ9 t0 j := by
  obtain ⟨a, b, c, d⟩ := h
  unfold LOK
  rw [(ho 1002 j (fun z => by omega)).1.1, (ho 1003 j (fun z => by omega)).1.1, hL 1001 j (fun z => by omega)]
  refine ⟨Or.inl a, b, c, d.elim (fun z => Or.inl ⟨z.1, z.2.1, fun y => y.elim z.2.2 (fun w => ?_)⟩) (fun z => Or.inr ⟨z.1, Or.inl z.2⟩)⟩
  obtain ⟨F, hF, he⟩ := List.mem_map.mp w
  have h1 := of_decide_eq_true (List.all_eq_true.mp hnl F hF)
  have : F = 1001 := (Prod.mk.inj he).1
  omega
/-- the old world and the new object, side by side -/
theorem pw_beside {D : va_G} {cI cZ cO : ClassId} {C k j a z o : Nat} {nl : List Nat} {L : Lay} {σ σ9 : St} {ow : Nat → Prop} {H1 H2 : Heap} (hC5 : C ≤ 5) (hj : cj C = j) (hk : k = σ.1 1002 j) (hI : CI σ) (hG : PW D cI cZ cO (cdom σ) L σ ow H1) (ho : Off C k σ σ9) (hlt : ∀ F q, cdom σ F q → L F q < a) (haz : a < z) (hq2 : ∀ q, q < z → q ≠ a → H2[q]? = H1[q]?) (hnl : nl.all (fun F => decide (F / 100 = C)) = true) (hGn : PW D cI cZ cO (dl (nl.map (fun F => (F, k)))) (newL C k a z o L) σ9 (oN a z) H2) : PW D cI cZ cO (fun F q => cdom σ F q ∨ (F, q) ∈ nl.map (fun F => (F, k))) (newL C k a z o L) σ9 (fun q => ow q ∨ oN a z q) H2 := by
  have hfar : ∀ F q, cdom σ F q → ¬ (F / 100 = C ∧ q = k) := fun F q hd z => by
    rcases hd with ⟨-, h⟩ | ⟨h, -⟩ | ⟨h, -⟩ | ⟨h1, h2, h3⟩
    · have : 600 ≤ F := by
        have h9 : ([899, 806, 807, 808, 799, 702, 703, 699, 600, 601] : List Nat).all (fun F => decide (600 ≤ F)) = true := by decide
        exact of_decide_eq_true (List.all_eq_true.mp h9 F h)
      omega
    · omega
    · omega
    · rw [z.1, hj] at h3
      omega
  have h1 := cw_far (L' := newL C k a z o L) hC5 hj (Nat.le_of_eq hk.symm) hI hG (fun F q h => newL_o h) ho
  have hlt2 : ∀ F q, cdom σ F q → newL C k a z o L F q < a := fun F q hd => by
    rw [newL_o (hfar F q hd)]
    exact hlt F q hd
  refine (h1.kept2 (H1 := H2) (fun F q hd => ?_)).join hGn (fun F q F' q' hd hd' e => ?_)
  · have h2 := hlt2 F q hd
    exact hq2 _ (by omega) (by omega)
  · have h2 := hlt2 F q hd
    obtain ⟨F9, hF9, he⟩ := List.mem_map.mp hd'
    obtain ⟨rfl, rfl⟩ := Prod.mk.inj he
    have h3 : a ≤ newL C k a z o L F9 k := newL_ge haz (of_decide_eq_true (List.all_eq_true.mp hnl F9 hF9))
    omega
