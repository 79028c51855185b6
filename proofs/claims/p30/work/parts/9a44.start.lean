/-! WHAT HOLDS AT THE START -/
theorem st_mem1 {w : Cond} {i : Nat} (h : tables_1_1[i]? = some w) : w ∈ lw_tbl := List.mem_append_right _ (List.mem_append_left _ (List.mem_of_getElem? h))
theorem st_mem2 {w : Cond} {i : Nat} (h : tables_1_2[i]? = some w) : w ∈ lw_tbl := List.mem_append_right _ (List.mem_append_right _ (List.mem_append_left _ (List.mem_of_getElem? h)))
theorem st_mem3 {w : Cond} {i : Nat} (h : tables_1_3[i]? = some w) : w ∈ lw_tbl := List.mem_append_right _ (List.mem_append_right _ (List.mem_append_right _ (List.mem_append_left _ (List.mem_of_getElem? h))))
theorem st_mem4 {w : Cond} {i : Nat} (h : tables_1_4[i]? = some w) : w ∈ lw_tbl := List.mem_append_right _ (List.mem_append_right _ (List.mem_append_right _ (List.mem_append_right _ (List.mem_append_left _ (List.mem_of_getElem? h)))))
theorem st_mem5 {w : Cond} {i : Nat} (h : tables_1_5[i]? = some w) : w ∈ lw_tbl := List.mem_append_right _ (List.mem_append_right _ (List.mem_append_right _ (List.mem_append_right _ (List.mem_append_right _ (List.mem_of_getElem? h)))))
section STs
variable {s : State} {args : Array Value}
theorem st_arr {ty : FieldType} (h : (Cond.arrayClass ty).before args s = true) (hty : ∀ C, ty ≠ .object C) : ∃ cA, ArrOfT s cA ty ∧ va_RA s cA ty := by
  obtain ⟨c, k, comp, h1, h2, h3⟩ := Cond.arrayClass_spec h
  refine ⟨c, fun N z => ⟨(fun k h => by cases h), k, h2, comp, h3⟩, ?_⟩
  cases ty with
  | object C => exact absurd rfl (hty C)
  | _ => exact h1
theorem st_arrO {C : String} (h : (Cond.arrayOver (.object C)).before args s = true) : ∃ cA, ArrOfT s cA (.object C) ∧ va_RA s cA (.object C) := by
  obtain ⟨comp, c, k, h1, h2, h3, h4, h5⟩ := Cond.arrayOver_spec h
  exact ⟨c, fun N z => ⟨(fun k h => by cases h), k, h3, comp, h4⟩, k, comp, h3, h4, h1, h5⟩
theorem st_cls (hts : ∀ w ∈ TB, w.before args s = true) {C : Nat} {RC : String} {T : u_T} {ty : Nat → FieldType} {N : Nat} (kc : KC C RC T ty) (hi : Cond.instantiable RC N ∈ TB) : ∃ (cC : ClassId) (iS : Nat → Nat), u_Kn s RC T (flds C).length cC iS := u_known hts kc.2.1 (hts _ hi)

theorem st_D (hts : ∀ w ∈ TB, w.before args s = true) : ∃ D : va_G, ∀ (k : Nat) (q : vw_C), vwCl[k]? = some q → u_Kn s q.1 q.2.1 q.2.2 (D.1 k) (D.2 k) := by
  obtain ⟨c0, i0, h0⟩ := st_cls (C := 10) hts kJx4a65c tw_1_43
  obtain ⟨c1, i1, h1⟩ := st_cls (C := 0) hts kX0 tw_2_98
  obtain ⟨c2, i2, h2⟩ := st_cls (C := 1) hts kX1 tw_1_144
  obtain ⟨c3, i3, h3⟩ := st_cls (C := 2) hts kX2 tw_2_157
  obtain ⟨c4, i4, h4⟩ := st_cls (C := 3) hts kX3 tw_4_87
  obtain ⟨c5, i5, h5⟩ := st_cls (C := 4) hts kX4 tw_3_79
  obtain ⟨c6, i6, h6⟩ := st_cls (C := 5) hts kX5 tw_3_22
  obtain ⟨c7, i7, h7⟩ := st_cls (C := 6) hts kX6 tw_1_118
  obtain ⟨c8, i8, h8⟩ := st_cls (C := 7) hts kX7 tw_1_69
  obtain ⟨c9, i9, h9⟩ := st_cls (C := 8) hts kX8 tw_1_35
  refine ⟨(fun k => if k = 0 then c0 else if k = 1 then c1 else if k = 2 then c2 else if k = 3 then c3 else if k = 4 then c4 else if k = 5 then c5 else if k = 6 then c6 else if k = 7 then c7 else if k = 8 then c8 else  c9, fun k => if k = 0 then i0 else if k = 1 then i1 else if k = 2 then i2 else if k = 3 then i3 else if k = 4 then i4 else if k = 5 then i5 else if k = 6 then i6 else if k = 7 then i7 else if k = 8 then i8 else  i9), fun k q hq => ?_⟩
  match k, hq with
  | 0, hq => cases hq; exact h0
  | 1, hq => cases hq; exact h1
  | 2, hq => cases hq; exact h2
  | 3, hq => cases hq; exact h3
  | 4, hq => cases hq; exact h4
  | 5, hq => cases hq; exact h5
  | 6, hq => cases hq; exact h6
  | 7, hq => cases hq; exact h7
  | 8, hq => cases hq; exact h8
  | 9, hq => cases hq; exact h9
  | k + 10, hq => simp [vwCl] at hq
theorem st_K (hts : ∀ w ∈ TB, w.before args s = true) (htl : ∀ w ∈ lw_tbl, w.before args s = true) : ∃ (D : va_G) (cI cZ cO : ClassId), KK D cI cZ cO s := by
  obtain ⟨D, hD⟩ := st_D hts
  obtain ⟨cI, hI⟩ := st_arr (htl _ (st_mem1 (i := 116) rfl)) (fun _ h => by cases h)
  obtain ⟨cZ, hZ⟩ := st_arr (htl _ (st_mem2 (i := 95) rfl)) (fun _ h => by cases h)
  obtain ⟨cO, hO⟩ := st_arrO (htl _ (st_mem1 (i := 207) rfl))
  refine ⟨D, cI, cZ, cO, hD, fun k q hq => ?_⟩
  match k, hq with
  | 0, hq => cases hq; exact hI
  | 1, hq => cases hq; exact hZ
  | 2, hq => cases hq; exact hO
  | k + 3, hq => simp at hq
end STs
/-! the JDK's statics, the texts and the classes at the start -/
section STEs
variable {s : State} {args : Array Value} {A : Nat → Prop}
theorem st_str {k : Nat} {tx : String} (h1 : (Cond.stringRef RX8 k tx).before args s = true) (h2 : (Cond.exactly (.string RX8 k) "java/lang/String").before args s = true) : ∃ a, vk_R RX8 k tx a s := by
  obtain ⟨a, c, cell, k, q1, -⟩ := Cond.exactly_spec h2
  exact ⟨a, vk_R.of h1 q1⟩
theorem st_EE (htl : ∀ w ∈ lw_tbl, w.before args s = true) (hgv : (Jvm.Cond.and given_1 narrow_1).before args s = true) (hA : ∀ a : Nat, a < s.heap.size → ¬ A a) : ∃ t0 mi, EE t0 mi A s s.heap := by
  have hs := flat_of_before _ hgv
  obtain ⟨t0, ht, hT⟩ := va_Tof (ty := .object "java/lang/Object") (N := 0) (f := fun _ => .null) (A := A) (tm := .static "java/util/ArrayList" "DEFAULTCAPACITY_EMPTY_ELEMENTDATA" "[Ljava/lang/Object;") (by decide) (hs _ (by decide +kernel)) (va_eqt (hs _ (by decide +kernel))) (fun j hj => absurd hj (Nat.not_lt_zero _)) hA
  obtain ⟨mi, hm⟩ := va_Mi.of (C := "[Ljava/lang/Object;") (hs _ (by decide +kernel))
  refine ⟨t0, mi, va_Zref (htl _ (st_mem1 (i := 55) rfl)) (htl _ (st_mem1 (i := 4) rfl)) ht hA, hT, va_AO.of (htl _ (st_mem1 (i := 207) rfl)), hm, va_Dc.of (htl _ (st_mem5 (i := 27) rfl)), ?_⟩
  exact (List.forall_mem_cons.mpr ⟨va_Nw.of rfl (htl _ (st_mem5 (i := 16) rfl)), (List.forall_mem_cons.mpr ⟨va_Nw.of rfl (htl _ (st_mem5 (i := 14) rfl)), (List.forall_mem_cons.mpr ⟨va_Nw.of rfl (htl _ (st_mem5 (i := 18) rfl)), (List.forall_mem_cons.mpr ⟨va_Nw.of rfl (htl _ (st_mem5 (i := 22) rfl)), (List.forall_mem_cons.mpr ⟨va_Nw.of rfl (htl _ (st_mem5 (i := 21) rfl)), (List.forall_mem_cons.mpr ⟨va_Nw.of rfl (htl _ (st_mem5 (i := 20) rfl)), (fun _ h => absurd h List.not_mem_nil)⟩)⟩)⟩)⟩)⟩)⟩)
theorem st_EX (htl : ∀ w ∈ lw_tbl, w.before args s = true) (hgv : (Jvm.Cond.and given_1 narrow_1).before args s = true) (hA : ∀ a : Nat, a < s.heap.size → ¬ A a) : EX A s s.heap := by
  have hs := flat_of_before _ hgv
  refine ⟨vx_Zqof (htl _ (st_mem2 (i := 55) rfl)) (htl _ (st_mem1 (i := 12) rfl)) (hs _ (by decide +kernel)) hA, vx_Zqof (htl _ (st_mem2 (i := 57) rfl)) (htl _ (st_mem1 (i := 12) rfl)) (hs _ (by decide +kernel)) hA, ?_, ?_⟩
  · exact (List.forall_mem_cons.mpr ⟨st_str (htl _ (st_mem3 (i := 77) rfl)) (hs _ (by decide +kernel)), (List.forall_mem_cons.mpr ⟨st_str (htl _ (st_mem3 (i := 113) rfl)) (hs _ (by decide +kernel)), (List.forall_mem_cons.mpr ⟨st_str (htl _ (st_mem3 (i := 117) rfl)) (hs _ (by decide +kernel)), (List.forall_mem_cons.mpr ⟨st_str (htl _ (st_mem3 (i := 122) rfl)) (hs _ (by decide +kernel)), (List.forall_mem_cons.mpr ⟨st_str (htl _ (st_mem4 (i := 33) rfl)) (hs _ (by decide +kernel)), (List.forall_mem_cons.mpr ⟨st_str (htl _ (st_mem3 (i := 19) rfl)) (hs _ (by decide +kernel)), (List.forall_mem_cons.mpr ⟨st_str (htl _ (st_mem3 (i := 20) rfl)) (hs _ (by decide +kernel)), (List.forall_mem_cons.mpr ⟨st_str (htl _ (st_mem3 (i := 67) rfl)) (hs _ (by decide +kernel)), (List.forall_mem_cons.mpr ⟨st_str (htl _ (st_mem3 (i := 72) rfl)) (hs _ (by decide +kernel)), (List.forall_mem_cons.mpr ⟨st_str (htl _ (st_mem2 (i := 148) rfl)) (hs _ (by decide +kernel)), (List.forall_mem_cons.mpr ⟨st_str (htl _ (st_mem2 (i := 155) rfl)) (hs _ (by decide +kernel)), (List.forall_mem_cons.mpr ⟨st_str (htl _ (st_mem3 (i := 159) rfl)) (hs _ (by decide +kernel)), (List.forall_mem_cons.mpr ⟨st_str (htl _ (st_mem3 (i := 8) rfl)) (hs _ (by decide +kernel)), (List.forall_mem_cons.mpr ⟨st_str (htl _ (st_mem4 (i := 178) rfl)) (hs _ (by decide +kernel)), (List.forall_mem_cons.mpr ⟨st_str (htl _ (st_mem4 (i := 179) rfl)) (hs _ (by decide +kernel)), (List.forall_mem_cons.mpr ⟨st_str (htl _ (st_mem3 (i := 229) rfl)) (hs _ (by decide +kernel)), (List.forall_mem_cons.mpr ⟨st_str (htl _ (st_mem5 (i := 1) rfl)) (hs _ (by decide +kernel)), (List.forall_mem_cons.mpr ⟨st_str (htl _ (st_mem4 (i := 58) rfl)) (hs _ (by decide +kernel)), (List.forall_mem_cons.mpr ⟨st_str (htl _ (st_mem4 (i := 60) rfl)) (hs _ (by decide +kernel)), (List.forall_mem_cons.mpr ⟨st_str (htl _ (st_mem4 (i := 42) rfl)) (hs _ (by decide +kernel)), (List.forall_mem_cons.mpr ⟨st_str (htl _ (st_mem4 (i := 43) rfl)) (hs _ (by decide +kernel)), (List.forall_mem_cons.mpr ⟨st_str (htl _ (st_mem2 (i := 69) rfl)) (hs _ (by decide +kernel)), (List.forall_mem_cons.mpr ⟨st_str (htl _ (st_mem2 (i := 223) rfl)) (hs _ (by decide +kernel)), (List.forall_mem_cons.mpr ⟨st_str (htl _ (st_mem3 (i := 9) rfl)) (hs _ (by decide +kernel)), (List.forall_mem_cons.mpr ⟨st_str (htl _ (st_mem3 (i := 10) rfl)) (hs _ (by decide +kernel)), (List.forall_mem_cons.mpr ⟨st_str (htl _ (st_mem4 (i := 48) rfl)) (hs _ (by decide +kernel)), (List.forall_mem_cons.mpr ⟨st_str (htl _ (st_mem4 (i := 49) rfl)) (hs _ (by decide +kernel)), (List.forall_mem_cons.mpr ⟨st_str (htl _ (st_mem4 (i := 85) rfl)) (hs _ (by decide +kernel)), (List.forall_mem_cons.mpr ⟨st_str (htl _ (st_mem4 (i := 187) rfl)) (hs _ (by decide +kernel)), (List.forall_mem_cons.mpr ⟨st_str (htl _ (st_mem4 (i := 153) rfl)) (hs _ (by decide +kernel)), (fun _ h => absurd h List.not_mem_nil)⟩)⟩)⟩)⟩)⟩)⟩)⟩)⟩)⟩)⟩)⟩)⟩)⟩)⟩)⟩)⟩)⟩)⟩)⟩)⟩)⟩)⟩)⟩)⟩)⟩)⟩)⟩)⟩)⟩)⟩)
  · exact (List.forall_mem_cons.mpr ⟨va_Nw.of rfl (htl _ (st_mem2 (i := 216) rfl)), (List.forall_mem_cons.mpr ⟨va_Nw.of rfl (htl _ (st_mem2 (i := 141) rfl)), (List.forall_mem_cons.mpr ⟨va_Nw.of rfl (htl _ (st_mem2 (i := 30) rfl)), (List.forall_mem_cons.mpr ⟨va_Nw.of rfl (htl _ (st_mem2 (i := 36) rfl)), (List.forall_mem_cons.mpr ⟨va_Nw.of rfl (htl _ (st_mem2 (i := 34) rfl)), (List.forall_mem_cons.mpr ⟨va_Nw.of rfl (htl _ (st_mem2 (i := 32) rfl)), (List.forall_mem_cons.mpr ⟨va_Nw.of rfl (htl _ (st_mem1 (i := 70) rfl)), (List.forall_mem_cons.mpr ⟨va_Nw.of rfl (htl _ (st_mem1 (i := 119) rfl)), (List.forall_mem_cons.mpr ⟨va_Nw.of rfl (htl _ (st_mem1 (i := 145) rfl)), (List.forall_mem_cons.mpr ⟨va_Nw.of rfl (htl _ (st_mem3 (i := 80) rfl)), (List.forall_mem_cons.mpr ⟨va_Nw.of rfl (htl _ (st_mem2 (i := 99) rfl)), (fun _ h => absurd h List.not_mem_nil)⟩)⟩)⟩)⟩)⟩)⟩)⟩)⟩)⟩)⟩)⟩)
end STEs
/-! isHeld and the law -/
abbrev hh9 : List (Nat × Nat × Nat × Nat) := [(0, 4, 5, 208), (0, 4, 8, 210), (0, 4, 11, 212)]
def wH9 (y : MethodName) (b : ByteArray) (n : Nat) (hh : List (Nat × Nat × Nat × Nat)) : List Cond := .codeWith y b n (some .boolean) hh :: TB
theorem m_ofWH {l : Launch} {y : MethodName} {ws ws' : List Cond} {rm : Room} {Pc : Array Value → State → Prop} {Qc : Array Value → State → Outcome → State → Prop} {mc ms : Nat} {free : Addr → Prop} {cc : ByteArray} {maxL : Nat} {ret : Option FieldType} {hh : List (Nat × Nat × Nat × Nat)}
    (hy : plainName y.cls = true) (hw : ws = Cond.codeWith y cc maxL ret hh :: ws')
    (body : ∀ p e s m args below meth c s₁, BodyLoose p l y (headSpec ws rm) cc maxL ret e s m args below meth c s₁ → c.maxLocals = maxL → Pc args s →
      W p l e (headSpec ws rm).room s m args below meth c s.heap [] 0 0 (MQ below Qc args s mc ms free) (entryFrame m args maxL)) : Met l y ws rm Pc Qc mc ms free := by
  refine MetFree.of_bodyS (code := cc) (maxLocals := maxL) (ret := ret) hy ?_ ?_
  · intro args s m h hn
    obtain ⟨m9, meth, c, hn9, h1, h2, h3, h4, -, h5, h6, -⟩ := Cond.codeWith_spec (atoms_spec (ws := ws) h _ (by rw [hw]; exact List.mem_cons_self))
    cases hn.symm.trans hn9
    exact ⟨meth, c, h1, h2, h3, h4, h5, h6⟩
  · intro p e s m args below meth c s₁ B hml hP _
    have hh0 : s₁.heap = s.heap := by rw [B.state]; rfl
    obtain ⟨t, a1, o, b1, b2, b3⟩ := body p e s m args below meth c s₁ B hml hP s₁ hh0 (Stand.of_body B)
    exact ⟨t, o, a1, b1, b2, b3⟩
section HELs
variable {D : va_G} {cI cZ cO : ClassId} {t0 mi z0 : Nat}
theorem v_L_isHeld (l : Launch) (hl9 : l.stackTraces = false) {b : Nat} (N : Nat) (xs : Nat → Int32) (hbz : b < z0) (hN : N ≤ 3072) : ∀ sz : Nat, z0 ≤ sz → Met l yL_isHeld (wH9 yL_isHeld cL_isHeld 2 hh9) { frames := 17, cells := 3636, slots := 45424, locals := 584 } (VSc D cI cZ cO t0 mi z0 b N xs VT9 sz [.ref b]) (va_Qi (fun x (_ : Unit) => x = nI 1) (fun _ t => VT9 t.heap) (vA z0)) 3636 45424 (vA z0) := by
  intro sz hsz0
  refine m_ofWH (cc := cL_isHeld) (maxL := 2) (ret := some .boolean) (hh := hh9) rfl rfl ?_
  intro p e s m args below meth c s₁ B hml hv
  obtain ⟨hav, hsz, hK, hE, hX, hP, hXs⟩ := hv
  subst hsz
  have hws := atoms_spec (ws := wH9 yL_isHeld cL_isHeld 2 hh9) B.pre
  rw [lg_entry_eq]
  have hl := lv_entry [.ref b] (n := 2) (Nat.le_of_ble_eq_true rfl)
  rw [hav]
  rw [hav] at B hws
  generalize (lg_sl [Value.ref b] ++ List.replicate (2 - (lg_sl [Value.ref b]).length) Slot.unset).toArray = ls at hl ⊢
  have X : CallFix p m c cL_isHeld 2 s _ TB RL := ⟨B.exec, B.bytes, hml, findClass_of_methodNamed B.named, fun w hw => hws w (List.mem_cons_of_mem _ hw)⟩
  have hx := X.1
  have hb := X.2.1
  have hS : va_S (vA z0) s.heap s.heap [] := va_S.rf
  have hl : lv_has ls 2 [(0, .ref b)] := hl
  refine lv_aload_n hx hb dL_isHeld_0 rfl (lv_at hl 0 rfl) ?_
  refine vs_call X hK hE hX hXs hbz hsz0 (P := VT9) (P' := VT9) trivial hS ysL_holds ml_L_204 [.ref b] [] (v_L_holds (D := D) (cI := cI) (cZ := cZ) (cO := cO) (t0 := t0) (mi := mi) (z0 := z0) (x9 := 0) (L := fun _ _ => 0) (b := b) l hl9 N xs hbz hN) rfl hl.1 rfl (Nat.le_of_ble_eq_true rfl) ⟨Nat.le_of_ble_eq_true rfl, Nat.le_of_ble_eq_true rfl⟩ ⟨Nat.le_of_ble_eq_true rfl, Nat.le_of_ble_eq_true rfl⟩ dL_isHeld_1 (fun H locs hP hS => ?_)
  exact vi_ret X B.returns B.notSynchronized trivial hS rfl (Nat.le_of_ble_eq_true rfl) (Nat.le_of_ble_eq_true rfl) rfl dL_isHeld_4
theorem yh_cw {R : Room} {s : State} {args : Array Value} {own : String} {idx : Nat} (hts : ∀ w ∈ TB, w.before args s = true) (hl : Cond.methodLink own idx yL_isHeld ∈ TB) {rm : Room} {mc ms : Nat} (hrc : rm.cells = mc) (hrs : rm.slots = ms) (hR : rm.frames + 1 ≤ R.frames ∧ 8 + (2 + 11) + rm.locals ≤ R.locals) : vx_CSW R s args own idx yL_isHeld cL_isHeld 2 (some .boolean) hh9 (wH9 yL_isHeld cL_isHeld 2 hh9) rm mc ms 1 := by
  have h3 : Cond.codeWith yL_isHeld cL_isHeld 2 (some .boolean) hh9 ∈ TB := tw_1_27
  have hG : GoodIn TB (wH9 yL_isHeld cL_isHeld 2 hh9) := fun w hw => (List.mem_cons.mp hw).elim (fun e => by rw [e]; exact g_in h3) (fun h => g_in h)
  refine ⟨⟨hrc, hrs, hR.1, hR.2, pay_in hts hG, List.mem_cons_self⟩, hts _ h3, hts _ tw_1_0, ⟨by decide +kernel, by decide +kernel⟩, fun sig h => ?_, hts _ hl, hts _ tw_1_26⟩
  have h2 : (parseMethodDescriptor yL_isHeld.desc).map (fun d => d.parameters.length) = some 1 := by decide +kernel
  rw [h] at h2
  exact (Option.some.inj h2).symm
end HELs
