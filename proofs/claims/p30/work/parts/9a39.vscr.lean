/-! the script, as the law's own methods see it -/
section SCs
variable {D : va_G} {cI cZ cO : ClassId} {t0 mi z0 : Nat}
def VSc (D : va_G) (cI cZ cO : ClassId) (t0 mi z0 : Nat) (b N : Nat) (xs : Nat → Int32) (P : Heap → Prop) (sz : Nat) (av : List Value) : Array Value → State → Prop := va_Pc av (fun U => U.heap.size = sz ∧ KK D cI cZ cO U ∧ EE t0 mi (vA z0) U U.heap ∧ EX (vA z0) U U.heap ∧ P U.heap ∧ va_X b N xs U U.heap)
set_option maxHeartbeats 400000 in
theorem vsc_blind {b N : Nat} {xs : Nat → Int32} {P : Heap → Prop} {sz : Nat} {av : List Value} : FrameBlind (VSc D cI cZ cO t0 mi z0 b N xs P sz av) := fun a U g mk q => by
  obtain ⟨q0, q1, q2, q3, q4, q5, q6⟩ := q
  exact ⟨q0, q1, va_K.moved (u := U) (U := U.calling g mk a) (Vm.Alike.refl U.vm) q2, q3.moved (U := U.calling g mk a) (Vm.Alike.refl U.vm), EX.same (u := U) (U := U.calling g mk a) rfl q4, q5, va_X.moved (u := U) (U := U.calling g mk a) (Vm.Alike.refl U.vm) q6⟩
def VSI (D : va_G) (cI cZ cO : ClassId) (t0 mi z0 : Nat) (l : Launch) (y : MethodName) (b : ByteArray) (n : Nat) (ret : Option FieldType) (fr lo mc ms : Nat) (av : List Value) (b9 N : Nat) (xs : Nat → Int32) (P P' : Heap → Prop) (r : Int32) : Prop :=
  ∀ sz : Nat, z0 ≤ sz → Met l y (wM y b n ret) { frames := fr, cells := mc, slots := ms, locals := lo } (VSc D cI cZ cO t0 mi z0 b9 N xs P sz av) (va_Qi (fun x (_ : Unit) => x = r) (fun _ t => P' t.heap) (vA z0)) mc ms (vA z0)
set_option maxHeartbeats 400000 in
theorem vsi_of {l : Launch} {y : MethodName} {b : ByteArray} {n : Nat} {ret : Option FieldType} {fr lo mc ms : Nat} {r : Int32} {av : List Value} {b9 N : Nat} {xs : Nat → Int32} {P P' : Heap → Prop} (hy : plainName y.cls = true) (hn : (lg_sl av).length ≤ n)
    (body : ∀ (p : Program) (e : Env) (s : State) (m : MethodId) (args : Array Value) (below : List Frame) (meth : Method) (c : Code) (ls : Array Slot), CallFix p m c b n s args TB y.cls → KK D cI cZ cO s → EE t0 mi (vA z0) s s.heap → EX (vA z0) s s.heap → P s.heap → va_X b9 N xs s s.heap → z0 ≤ s.heap.size → meth.sig.returnType = ret → meth.locks = false → lv_has ls n (lv_args 0 av) →
      W p l e { frames := fr, cells := mc, slots := ms, locals := lo } s m args below meth c s.heap [] 0 0 (MQ below (va_Qi (fun x (_ : Unit) => x = r) (fun _ t => P' t.heap) (vA z0)) args s mc ms (vA z0)) (F0 m 0 ls [])) : VSI D cI cZ cO t0 mi z0 l y b n ret fr lo mc ms av b9 N xs P P' r := by
  intro sz hsz0
  refine Met.ofW (cc := b) (maxL := n) (ret := ret) hy rfl ?_
  intro p e s m args below meth c s₁ B hml hv
  obtain ⟨hav, hsz, hK, hE, hX, hP, hXs⟩ := hv
  subst hsz
  rw [lg_entry_eq]
  have hl := lv_entry av hn
  have hws := atoms_spec (ws := wM y b n ret) B.pre
  rw [hav]
  rw [hav] at B hws
  exact body p e s m av.toArray below meth c _ ⟨B.exec, B.bytes, hml, findClass_of_methodNamed B.named, wm_hts hws⟩ hK hE hX hP hXs hsz0 B.returns B.notSynchronized hl
variable {p : Program} {l : Launch} {e : Env} {R : Room} {s : State} {m : MethodId} {args : Array Value} {below : List Frame} {meth : Method} {c : Code} {locs : List Loc} {cells slots : Nat} {Q : State → Prop} {H : Heap}
variable {cc : ByteArray} {pc nL : Nat} {ls : Array Slot} {rest st0 : List Value} {own : String}
set_option maxHeartbeats 400000 in
theorem vs_call (X : CallFix p m c cc nL s args TB own) (hK : KK D cI cZ cO s) (hE : EE t0 mi (vA z0) s s.heap) (hX : EX (vA z0) s s.heap) {b9 N : Nat} {xs : Nat → Int32} (hXs : va_X b9 N xs s s.heap) (hbz : b9 < z0) (hzs : z0 ≤ s.heap.size) {P P' : Heap → Prop} (hP : P H) (hS : va_S (vA z0) s.heap H locs) {y : MethodName} {b : ByteArray} {n : Nat} {ret : Option FieldType} {na idx fr lo mc ms : Nat} {r : Int32} (hY : YS y b n ret na) (hl : Cond.methodLink own idx y ∈ TB) (As : List Value) (rest : List Value) (hM : VSI D cI cZ cO t0 mi z0 l y b n ret fr lo mc ms As b9 N xs P P' r)
    (hst : st0 = As.reverse ++ rest) (hls : ls.size = nL) (hn : As.length = na) (hrm : (rest.map fun v => v.category).sum ≤ 8) (hR : fr + 1 ≤ R.frames ∧ 8 + (n + 11) + lo ≤ R.locals) (hc : cells + mc ≤ R.cells ∧ slots + ms ≤ R.slots) (d : decode cc pc = .ok (.invokestatic idx, 3))
    (kk : ∀ (H1 : Heap) (locs1 : List Loc), P' H1 → va_S (vA z0) s.heap H1 locs1 → W p l e R s m args below meth c H1 locs1 (cells + mc) (slots + ms) Q (F0 m (pc + 3) ls (.int r :: rest))) : W p l e R s m args below meth c H locs cells slots Q (F0 m pc ls st0) := by
  subst hst
  have hXH : va_X b9 N xs s H := hXs.kept (hS.2.1 b9 (Nat.lt_of_lt_of_le hbz hzs) (fun z => Nat.lt_irrefl _ (Nat.lt_of_lt_of_le hbz z)))
  refine va_calli (va_runS (As := As) (rest := rest) X (hM H.size (Nat.le_trans hzs hS.1)) (ys_cw X.2.2.2.2 hY hl rfl rfl hR) ⟨vsc_blind, fun U hU hW => ⟨rfl, by rw [hU], va_K.moved hW.alike hK, by rw [hU]; exact (hE.at hS).moved hW.alike, by rw [hU]; exact (hX.at hS).warm hW, by rw [hU]; exact hP, by rw [hU]; exact va_X.moved hW.alike hXH⟩⟩ rfl hn hls rfl (lv_room hrm) d hc) hS (fun q _ h => h) (fun q h => h) ?_
  intro r1 u t H1 locs1 ht _ hw hB _ _ hS1
  subst hw
  rw [ht] at hB
  exact kk H1 locs1 hB hS1
end SCs
/-- what the law takes out of the script -/
def h_its (xs : Nat → Int32) (N k : Nat) : Int32 := if N = 0 then nI (739 * k + 91) else xs (k % N) ^^^ nI (433494 * k)
def h_from (xs : Nat → Int32) (N k w : Nat) : Nat := (h_its xs N k).toUInt32.toNat % 2147483648 % w
set_option maxHeartbeats 400000 in
theorem and31 (x : Int32) : x &&& nI 2147483647 = nI (x.toUInt32.toNat % 2147483648) := by
  apply Int32.toBitVec_inj.mp
  apply BitVec.eq_of_toNat_eq
  have e1 : (x &&& nI 2147483647).toBitVec.toNat = x.toBitVec.toNat &&& 2147483647 := by
    rw [Int32.toBitVec_and, BitVec.toNat_and]
    rfl
  have e2 : x.toBitVec.toNat &&& 2147483647 = x.toBitVec.toNat % 2147483648 := Nat.and_two_pow_sub_one_eq_mod (n := 31) _
  have e3 : (nI (x.toUInt32.toNat % 2147483648)).toBitVec.toNat = x.toUInt32.toNat % 2147483648 := by
    show (BitVec.ofNat 32 (x.toUInt32.toNat % 2147483648)).toNat = _
    rw [BitVec.toNat_ofNat]
    omega
  rw [e1, e2, e3]
  rfl
set_option maxHeartbeats 400000 in
theorem from_lt {xs : Nat → Int32} {N k w : Nat} (h : 0 < w) : h_from xs N k w < w := Nat.mod_lt _ h
/-! blocks, one behind the other -/
def BL (p : Nat) (σ0 σ : St) (bs : List Nat) : Prop := σ.2.2.2 901 0 (36 + p) = nI bs.length ∧ (∀ j, j < bs.length → σ.2.2.2 901 0 (12 * p + j) = nI (bs.getD j 0)) ∧ (∀ F, F ≠ 901 → σ.2.2.2 F = σ0.2.2.2 F) ∧ σ.2.2.1 = σ0.2.2.1 ∧ ∀ i, i ≠ 36 + p → (i < 12 * p ∨ 12 * p + 12 ≤ i) → σ.2.2.2 901 0 i = σ0.2.2.2 901 0 i
set_option maxHeartbeats 400000 in
theorem BL.nil {p : Nat} {σ : St} (h : σ.2.2.2 901 0 (36 + p) = nI 0) : BL p σ σ [] := ⟨h, fun j hj => absurd hj (Nat.not_lt_zero _), fun _ _ => rfl, rfl, fun _ _ _ => rfl⟩
set_option maxHeartbeats 400000 in
theorem BL.snoc {p : Nat} {σ0 σ : St} {bs : List Nat} (h : BL p σ0 σ bs) (hp : p < 3) (hn : bs.length < 12) (w c : Nat) : BL p σ0 (h_bw p bs.length w c σ) (bs ++ [w + 8 * c]) := by
  obtain ⟨r1, r2, r3⟩ := bw_r p bs.length w c σ
  obtain ⟨h1, h2, h3, h4, h5⟩ := h
  refine ⟨by rw [r1, if_pos rfl, List.length_append]; rfl, fun j hj => ?_, fun F z => (r2 F z).trans (h3 F z), r3.trans h4, fun i z1 z2 => ?_⟩
  · have hlen : [w + 8 * c].length = 1 := rfl
    rw [List.length_append] at hj
    rw [r1, if_neg (by omega)]
    by_cases z : j = bs.length
    · subst z
      rw [if_pos rfl, List.getD_eq_getElem?_getD, List.getElem?_append_right (Nat.le_refl _), Nat.sub_self]
      rfl
    · have hj2 : j < bs.length := by omega
      rw [if_neg (by omega), h2 j hj2, List.getD_eq_getElem?_getD, List.getD_eq_getElem?_getD, List.getElem?_append_left hj2]
  · rw [r1, if_neg z1, if_neg (by omega)]
    exact h5 i z1 z2
def nbL : List Nat → Bool
  | [] => false
  | x :: xs => if x % 8 = 1 then false else if x % 8 = 3 ∨ x % 8 = 6 then true else nbL xs
set_option maxHeartbeats 400000 in
theorem ndb_L (f : Nat → Nat) : ∀ (bs : List Nat) (j : Nat), (∀ i, i < bs.length → f (j + i) = bs.getD i 0) → ndb f bs.length j = nbL bs
  | [], _, _ => rfl
  | x :: xs, j, h => by
    have h0 : f j = x := h 0 (Nat.zero_lt_succ _)
    have ih := ndb_L f xs (j + 1) (fun i hi => by
      have a := h (i + 1) (Nat.succ_lt_succ hi)
      rw [show j + 1 + i = j + (i + 1) by omega, a]
      rfl)
    show (if f j % 8 = 1 then false else if f j % 8 = 3 ∨ f j % 8 = 6 then true else ndb f xs.length (j + 1)) = nbL (x :: xs)
    rw [h0, ih]
    rfl
def okB (p x : Nat) (xs : List Nat) : Prop := x < 1000 ∧ x % 8 ≤ 6 ∧ (x % 8 = 6 → 16 ≤ x / 8 ∧ x / 8 < 16 + p ∧ nbL xs = false) ∧ (x % 8 = 5 → 16 ≤ x / 8 ∧ x / 8 < 20) ∧ (x % 8 = 3 → 16 ≤ x / 8 ∧ x / 8 < 20) ∧ (x % 8 = 1 → x / 8 = 16 ∨ nbL xs = false)
def okL (p : Nat) : List Nat → Prop
  | [] => True
  | x :: xs => okB p x xs ∧ okL p xs
set_option maxHeartbeats 400000 in
theorem okL_at (p : Nat) : ∀ (bs : List Nat), okL p bs → ∀ j, j < bs.length → okB p (bs.getD j 0) (bs.drop (j + 1))
  | [], _, j, hj => absurd hj (Nat.not_lt_zero _)
  | x :: xs, h, 0, _ => h.1
  | x :: xs, h, j + 1, hj => okL_at p xs h.2 j (Nat.lt_of_succ_lt_succ hj)
/-- a whole program as GI asks -/
def GIp (p : Nat) (σ : St) : Prop := ix (σ.2.2.2 901 0 (36 + p)) 13 ∧ ∀ j, j < gs σ p → ix (σ.2.2.2 901 0 (12 * p + j)) 1000 ∧ WB p (gi σ p) (gs σ p) j
set_option maxHeartbeats 400000 in
theorem getD_drop (bs : List Nat) (j i : Nat) : (bs.drop j).getD i 0 = bs.getD (j + i) 0 := by
  rw [List.getD_eq_getElem?_getD, List.getD_eq_getElem?_getD, List.getElem?_drop]
set_option maxHeartbeats 400000 in
theorem BL.gip {p : Nat} {σ0 σ : St} {bs : List Nat} (h : BL p σ0 σ bs) (hn : bs.length ≤ 12) (ho : okL p bs) : GIp p σ := by
  obtain ⟨h1, h2, -⟩ := h
  have g : gs σ p = bs.length := by unfold gs; rw [h1, tn_nI (by omega)]
  have gj : ∀ j, j < bs.length → gi σ p j = bs.getD j 0 := fun j hj => by
    have a := (okL_at p bs ho j hj).1
    unfold gi
    rw [h2 j hj, tn_nI (by omega)]
  refine ⟨by rw [h1]; exact (ix_nI (by omega)).mpr (by omega), fun j hj => ?_⟩
  rw [g] at hj ⊢
  obtain ⟨a1, a2, a3, a4, a5, a6⟩ := okL_at p bs ho j hj
  have hd : ndb (gi σ p) (bs.length - (j + 1)) (j + 1) = nbL (bs.drop (j + 1)) := by
    have a := ndb_L (gi σ p) (bs.drop (j + 1)) (j + 1) (fun i hi => by
      rw [List.length_drop] at hi
      rw [gj _ (by omega), getD_drop])
    rw [List.length_drop] at a
    exact a
  refine ⟨by rw [h2 j hj]; exact (ix_nI (by omega)).mpr a1, ?_⟩
  unfold WB
  rw [hd, gj j hj]
  exact ⟨a2, a3, a4, a5, a6⟩
set_option maxHeartbeats 400000 in
theorem ndb_cong {f g : Nat → Nat} : ∀ (n j : Nat), (∀ i, j ≤ i → i < j + n → f i = g i) → ndb f n j = ndb g n j
  | 0, _, _ => rfl
  | n + 1, j, h => by
    have e0 := h j (Nat.le_refl _) (by omega)
    have ih := ndb_cong n (j + 1) (fun i h1 h2 => h i (by omega) (by omega))
    unfold ndb
    rw [e0, ih]
set_option maxHeartbeats 400000 in
theorem GIp.eq {p : Nat} {σ σ' : St} (h : GIp p σ) (hp : p < 3) (h36 : σ'.2.2.2 901 0 (36 + p) = σ.2.2.2 901 0 (36 + p)) (hj : ∀ j, j < 12 → σ'.2.2.2 901 0 (12 * p + j) = σ.2.2.2 901 0 (12 * p + j)) : GIp p σ' := by
  have g : gs σ' p = gs σ p := by unfold gs; rw [h36]
  have b := ix_lt h.1
  have gj : ∀ j, j < 12 → gi σ' p j = gi σ p j := fun j z => by unfold gi; rw [hj j z]
  have b12 : gs σ p < 13 := b
  have cg : ∀ n j, j + n ≤ 12 → ndb (gi σ' p) n j = ndb (gi σ p) n j := fun n j z => ndb_cong n j (fun i _ hi => gj i (by omega))
  refine ⟨by rw [h36]; exact h.1, fun j hj2 => ?_⟩
  rw [g] at hj2 ⊢
  have a := h.2 j hj2
  refine ⟨by rw [hj j (by omega)]; exact a.1, ?_⟩
  unfold WB at a ⊢
  rw [cg _ _ (by omega), gj j (by omega)]
  exact a.2
set_option maxHeartbeats 400000 in
theorem GIp.all {σ : St} (h0 : GIp 0 σ) (h1 : GIp 1 σ) (h2 : GIp 2 σ) : GI σ := fun p hp => by
  rcases (by omega : p = 0 ∨ p = 1 ∨ p = 2) with rfl | rfl | rfl
  · exact h0
  · exact h1
  · exact h2
set_option maxHeartbeats 400000 in
/-- one block of a word 0 or 1 more keeps GI -/
theorem GI.bw {p k w c : Nat} {σ : St} (h : GI σ) (hp : p < 3) (hk : k < 12) (h36 : σ.2.2.2 901 0 (36 + p) = nI k) (hw : w < 2) (hc : c < 32) : GI (h_bw p k w c σ) := by
  obtain ⟨r1, r2, r3⟩ := bw_r p k w c σ
  intro q hq
  by_cases z : q = p
  · subst z
    have a36 : (h_bw q k w c σ).2.2.2 901 0 (36 + q) = nI (k + 1) := by rw [r1, if_pos rfl]
    have g0 : gs σ q = k := by unfold gs; rw [h36, tn_nI (by omega)]
    have g1 : gs (h_bw q k w c σ) q = k + 1 := by unfold gs; rw [a36, tn_nI (by omega)]
    have aj : ∀ j, j < 12 → (h_bw q k w c σ).2.2.2 901 0 (12 * q + j) = if j = k then nI (w + 8 * c) else σ.2.2.2 901 0 (12 * q + j) := fun j hj => by
      rw [r1, if_neg (by omega)]
      by_cases y : j = k
      · rw [if_pos (by omega), if_pos y]
      · rw [if_neg (by omega), if_neg y]
    have gj : ∀ j, j < 12 → gi (h_bw q k w c σ) q j = if j = k then w + 8 * c else gi σ q j := fun j hj => by
      unfold gi
      rw [aj j hj]
      by_cases y : j = k
      · rw [if_pos y, if_pos y, tn_nI (by omega)]
      · rw [if_neg y, if_neg y]
    have nd : ∀ n j, j + n = k → ndb (gi σ q) n j = false → ndb (gi (h_bw q k w c σ) q) (n + 1) j = false := fun n => by
      induction n with
      | zero =>
        intro j hj _
        show (if gi (h_bw q k w c σ) q j % 8 = 1 then false else if gi (h_bw q k w c σ) q j % 8 = 3 ∨ gi (h_bw q k w c σ) q j % 8 = 6 then true else false) = false
        rw [gj j (by omega), if_pos (show j = k by omega)]
        have m : (w + 8 * c) % 8 = w := by omega
        rw [m, if_neg (show ¬ (w = 3 ∨ w = 6) by omega)]
        split <;> rfl
      | succ n ih =>
        intro j hj hz
        change (if gi σ q j % 8 = 1 then false else if gi σ q j % 8 = 3 ∨ gi σ q j % 8 = 6 then true else ndb (gi σ q) n (j + 1)) = false at hz
        show (if gi (h_bw q k w c σ) q j % 8 = 1 then false else if gi (h_bw q k w c σ) q j % 8 = 3 ∨ gi (h_bw q k w c σ) q j % 8 = 6 then true else ndb (gi (h_bw q k w c σ) q) (n + 1) (j + 1)) = false
        rw [gj j (by omega), if_neg (show ¬ j = k by omega)]
        by_cases y1 : gi σ q j % 8 = 1
        · rw [if_pos y1]
        · rw [if_neg y1] at hz ⊢
          by_cases y2 : gi σ q j % 8 = 3 ∨ gi σ q j % 8 = 6
          · rw [if_pos y2] at hz
            exact absurd hz (by decide)
          · rw [if_neg y2] at hz ⊢
            exact ih (j + 1) (by omega) hz
    refine ⟨by rw [a36]; exact (ix_nI (by omega)).mpr (by omega), fun j hj => ?_⟩
    rw [g1] at hj ⊢
    by_cases y : j = k
    · subst y
      have m1 : (w + 8 * c) % 8 = w := by omega
      have m2 : (w + 8 * c) / 8 = c := by omega
      refine ⟨by rw [aj j hk, if_pos rfl]; exact (ix_nI (by omega)).mpr (by omega), ?_⟩
      unfold WB
      rw [gj j hk, if_pos rfl, m1, Nat.sub_self]
      exact ⟨by omega, fun u => by omega, fun u => by omega, fun u => by omega, fun _ => Or.inr rfl⟩
    · have a := (h q hq).2 j (by rw [g0]; omega)
      refine ⟨by rw [aj j (by omega), if_neg y]; exact a.1, ?_⟩
      have w1 := a.2
      rw [g0] at w1
      unfold WB at w1 ⊢
      rw [gj j (by omega), if_neg y, show k + 1 - (j + 1) = (k - (j + 1)) + 1 by omega]
      refine ⟨w1.1, fun u => ⟨(w1.2.1 u).1, (w1.2.1 u).2.1, nd _ _ (by omega) (w1.2.1 u).2.2⟩, w1.2.2.1, w1.2.2.2.1, fun u => (w1.2.2.2.2 u).imp id (nd _ _ (by omega))⟩
  · refine GIp.eq (σ := σ) (h q hq) hq ?_ (fun j hj => ?_)
    · rw [r1, if_neg (by omega), if_neg (by omega)]
    · rw [r1, if_neg (by omega), if_neg (by omega)]
set_option maxHeartbeats 400000 in
theorem sub16 {a b : Nat} (h : b ≤ a + 16) : nI a - nI b = nI (a + 16 - b) - nI 16 := by
  obtain ⟨x, hx⟩ : ∃ x, a + 16 = x + b := ⟨a + 16 - b, by omega⟩
  have e : nI a + nI 16 = nI x + nI b := by rw [nI_add, nI_add, hx]
  rw [show a + 16 - b = x by omega]
  generalize nI a = A at *
  generalize nI b = B at *
  generalize nI x = C at *
  generalize nI 16 = S at *
  grind
