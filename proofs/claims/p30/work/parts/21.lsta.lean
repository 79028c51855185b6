/-! CONTRACTS that answer a reference or null -/
section RRs
variable {D : va_G} {cI cZ cO : ClassId} {dom : Nat → Nat → Prop} {L : Lay} {σ σ' σ2 : St} {ow A : Nat → Prop}
def RQr (D : va_G) (cI cZ cO : ClassId) (dom : Nat → Nat → Prop) (L : Lay) (ow : Nat → Prop) (sz : Nat) (r : Option Nat) (σ' : St) : Array Value → State → Outcome → State → Prop := va_Qq (fun x (_ : Unit) => x = r) (fun _ t => PW D cI cZ cO dom L σ' ow t.heap) (AA ow sz)
def RR (D : va_G) (cI cZ cO : ClassId) (dom : Nat → Nat → Prop) (l : Launch) (y : MethodName) (b : ByteArray) (n : Nat) (ret : Option FieldType) (fr lo : Nat) (av : List Value) (L : Lay) (σ : St) (ow : Nat → Prop) (r : Option Nat) (σ' : St) : Prop :=
  ∀ sz : Nat, Met l y (wM y b n ret) { frames := fr, cells := 0, slots := 0, locals := lo } (RP D cI cZ cO dom L σ ow sz av) (RQr D cI cZ cO dom L ow sz r σ') 0 0 (AA ow sz)
theorem rr_of {l : Launch} {y : MethodName} {b : ByteArray} {n : Nat} {ret : Option FieldType} {fr lo : Nat} {av : List Value} {r : Option Nat} (hy : plainName y.cls = true) (hn : (lg_sl av).length ≤ n)
    (body : ∀ (p : Program) (e : Env) (s : State) (m : MethodId) (below : List Frame) (meth : Method) (c : Code) (ls : Array Slot), CallFix p m c b n s av.toArray TB y.cls → KK D cI cZ cO s → PW D cI cZ cO dom L σ ow s.heap → meth.sig.returnType = ret → meth.locks = false → lv_has ls n (lv_args 0 av) →
      W p l e { frames := fr, cells := 0, slots := 0, locals := lo } s m av.toArray below meth c s.heap [] 0 0 (MQ below (RQr D cI cZ cO dom L ow s.heap.size r σ') av.toArray s 0 0 (AA ow s.heap.size)) (F0 m 0 ls [])) : RR D cI cZ cO dom l y b n ret fr lo av L σ ow r σ' := by
  intro sz
  refine Met.ofW (cc := b) (maxL := n) (ret := ret) hy rfl ?_
  intro p e s m args below meth c s₁ B hml hv
  obtain ⟨rfl, hsz, hK, hG⟩ := hv
  subst hsz
  rw [lg_entry_eq]
  have hl := lv_entry av hn
  exact body p e s m below meth c _ ⟨B.exec, B.bytes, hml, findClass_of_methodNamed B.named, wm_hts (atoms_spec (ws := wM y b n ret) B.pre)⟩ hK hG B.returns B.notSynchronized hl
variable {p : Program} {l : Launch} {e : Env} {R : Room} {s : State} {m : MethodId} {args : Array Value} {below : List Frame} {meth : Method} {c : Code} {H H0 : Heap} {locs : List Loc} {cells slots : Nat} {Q : State → Prop}
variable {cc : ByteArray} {pc nL : Nat} {ls : Array Slot} {rest st0 : List Value} {own : String}
theorem rr_ret (hx : p.tables.exec = Jvm.exec) (hb : c.code = cc) {ty : FieldType} (hr : meth.sig.returnType = some ty) (hty : (∃ n, ty = .object n) ∨ ∃ t, ty = .array t) (hlocks : meth.locks = false) (hG : PW D cI cZ cO dom L σ2 ow H) (hS : va_S (AA ow s.heap.size) s.heap H locs) {v r : Option Nat} (hv : v = r) (hσ : σ2 = σ') (d : decode cc pc = .ok (.areturn, 1)) :
    W p l e R s m args below meth c H locs cells slots (MQ below (RQr D cI cZ cO dom L ow s.heap.size r σ') args s cells slots (AA ow s.heap.size)) (F0 m pc ls [va_rf v]) := by
  subst hσ
  exact W.aret hx hb hr hty (va_rf_or v) (fun t ht hW => ⟨⟨v, (), rfl, hv, by show PW D cI cZ cO dom L σ2 ow t.heap; rw [ht]; exact hG⟩, hS.F ht⟩) hS.2.2 d hlocks
section
variable {y : MethodName} {RC : String} {b : ByteArray} {n : Nat} {ret : Option FieldType} {na idx fr lo : Nat} {r : Option Nat} {T : u_T} {ty : Nat → FieldType}
theorem rr_callVg (X : CallFix p m c cc nL s args TB own) (hK : KK D cI cZ cO s) (hG : PW D cI cZ cO dom L σ ow H) (hS : va_S A H0 H locs) (hA : ∀ q, AA ow H0.size q → A q) (hY : YV y RC b n ret na) (hl : Cond.methodLink own idx y ∈ TB) {C : Nat} (kc : KC C RC T ty) {O k : Nat} (hO : 100 * C + 99 = O) (hd : dom O k) (As : List Value) (rest : List Value) (hM : RR D cI cZ cO dom l y b n ret fr lo (.ref (L O k) :: As) L σ ow r σ')
    (hst : st0 = As.reverse ++ .ref (L O k) :: rest) (hls : ls.size = nL) (hn : As.length = na) (hrm : (rest.map fun v => v.category).sum ≤ 8) (hR : fr + 1 ≤ R.frames ∧ 8 + (n + 11) + lo ≤ R.locals) (hc : cells ≤ R.cells ∧ slots ≤ R.slots) (d : decode cc pc = .ok (.invokevirtual idx, 3))
    (kk : ∀ (H1 : Heap) (locs1 : List Loc), PW D cI cZ cO dom L σ' ow H1 → va_S A H0 H1 locs1 → W p l e R s m args below meth c H1 locs1 cells slots Q (F0 m (pc + 3) ls (va_rf r :: rest))) : W p l e R s m args below meth c H locs cells slots Q (F0 m pc ls st0) := by
  subst hst
  refine va_callq (va_runV (As := As) (rest := rest) X (hM H.size) (yv_cw X.2.2.2.2 hY hl rfl rfl hR) ⟨rp_blind, pw_recv hK hG kc hO hd, rp_pre hK hG rfl⟩ rfl hn hls rfl (lv_room hrm) d hc) hS (fun q _ h => hA q (aa_le hS.1 q h)) (fun q h => hA q (aa_le hS.1 q h)) ?_
  intro r1 u t H1 locs1 ht _ hw hB _ _ hS1
  subst hw
  rw [ht] at hB
  exact kk H1 locs1 hB hS1
theorem rr_callSg (X : CallFix p m c cc nL s args TB own) (hK : KK D cI cZ cO s) (hG : PW D cI cZ cO dom L σ ow H) (hS : va_S A H0 H locs) (hA : ∀ q, AA ow H0.size q → A q) (hY : YS y b n ret na) (hl : Cond.methodLink own idx y ∈ TB) (As : List Value) (rest : List Value) (hM : RR D cI cZ cO dom l y b n ret fr lo As L σ ow r σ')
    (hst : st0 = As.reverse ++ rest) (hls : ls.size = nL) (hn : As.length = na) (hrm : (rest.map fun v => v.category).sum ≤ 8) (hR : fr + 1 ≤ R.frames ∧ 8 + (n + 11) + lo ≤ R.locals) (hc : cells ≤ R.cells ∧ slots ≤ R.slots) (d : decode cc pc = .ok (.invokestatic idx, 3))
    (kk : ∀ (H1 : Heap) (locs1 : List Loc), PW D cI cZ cO dom L σ' ow H1 → va_S A H0 H1 locs1 → W p l e R s m args below meth c H1 locs1 cells slots Q (F0 m (pc + 3) ls (va_rf r :: rest))) : W p l e R s m args below meth c H locs cells slots Q (F0 m pc ls st0) := by
  subst hst
  refine va_callq (va_runS (As := As) (rest := rest) X (hM H.size) (ys_cw X.2.2.2.2 hY hl rfl rfl hR) ⟨rp_blind, rp_pre hK hG rfl⟩ rfl hn hls rfl (lv_room hrm) d hc) hS (fun q _ h => hA q (aa_le hS.1 q h)) (fun q h => hA q (aa_le hS.1 q h)) ?_
  intro r1 u t H1 locs1 ht _ hw hB _ _ hS1
  subst hw
  rw [ht] at hB
  exact kk H1 locs1 hB hS1
end
variable {k : Nat}
theorem ent_l {j : Nat} : ent cI cZ cO L σ 1001 j = .inl (cO, σ.1 1003 j, .inr (.inr (.inr (.inr (lrefs L σ j))))) := rfl
theorem gt_Jx4a65c_9 (X : CallFix p m c cc nL s args TB RJx4a65c) (hK : KK D cI cZ cO s) (hG : PW D cI cZ cO dom L σ ow H) (hd : dom 1099 k) (d : decode cc pc = .ok (.getfield 9, 3)) (kk : W p l e R s m args below meth c H locs cells slots Q (F0 m (pc + 3) ls (.ref (L 1001 k) :: rest))) : W p l e R s m args below meth c H locs cells slots Q (F0 m pc ls (.ref (L 1099 k) :: rest)) := pw_get X hK hG kJx4a65c 1099 1001 1 rfl rfl hd (by decide) fw_Jx4a65c_9 (fun _ h => h) rfl d kk
theorem gt_Jx4a65c_48 (X : CallFix p m c cc nL s args TB RJx4a65c) (hK : KK D cI cZ cO s) (hG : PW D cI cZ cO dom L σ ow H) (hd : dom 1099 k) {x : Nat} (hv : σ.1 1002 k = x) (d : decode cc pc = .ok (.getfield 48, 3)) (kk : W p l e R s m args below meth c H locs cells slots Q (F0 m (pc + 3) ls (.int (nI x) :: rest))) : W p l e R s m args below meth c H locs cells slots Q (F0 m pc ls (.ref (L 1099 k) :: rest)) := pw_get X hK hG kJx4a65c 1099 1002 2 rfl rfl hd (by decide) fw_Jx4a65c_48 (fun _ h => h) (by subst hv; rfl) d kk
theorem pw_aldq (X : CallFix p m c cc nL s args TB own) (hK : KK D cI cZ cO s) (hG : PW D cI cZ cO dom L σ ow H) {j i : Nat} (hd : dom 1001 j) (hi : i < σ.1 1002 j) (hc : σ.1 1002 j ≤ σ.1 1003 j) (h5 : σ.1 1003 j < 100000) (hdg : decode cc pc = .ok (.aaload, 1))
    (kk : W p l e R s m args below meth c H locs cells slots Q (F0 m (pc + 1) ls (.ref (L (fel j) (σ.2.2.1 1001 j i)) :: rest))) : W p l e R s m args below meth c H locs cells slots Q (F0 m pc ls (.int (nI i) :: .ref (L 1001 j) :: rest)) := by
  have hat := hG.1 _ _ hd
  rw [ent_l] at hat
  refine va_aldq X.1 X.2.1 hK (va_P1 hat) 0 2 rfl rfl (vp_in_nI (Nat.lt_of_lt_of_le hi hc) (by omega)) hdg ?_
  rw [nI_clamp (by omega)]
  unfold lrefs
  rw [if_pos hi]
  exact kk
theorem r_max (X : CallFix p m c cc nL s args TB own) (hls : ls.size = nL) {idx : Nat} (hl : Cond.methodLink own idx yJ9_max_7cf53 ∈ TB) (hf : 1 ≤ R.frames) (hlo : (rest.map fun v => v.category).sum + 13 ≤ R.locals) (hc : cells ≤ R.cells) (hs : slots ≤ R.slots) {x y : Int32} (d : decode cc pc = .ok (.invokestatic idx, 3))
    (kk : W p l e R s m args below meth c H locs cells slots Q (F0 m (pc + 3) ls (.int (if x < y then y else x) :: rest))) : W p l e R s m args below meth c H locs cells slots Q (F0 m pc ls (.int y :: .int x :: rest)) :=
  va_mmax X.1 X.2.1 (X.2.2.1.trans hls.symm) X.2.2.2.1 (X.2.2.2.2 _ hl) (X.2.2.2.2 _ ysJ9_max_7cf53.1.1) (X.2.2.2.2 _ ysJ9_max_7cf53.1.2.1) (X.2.2.2.2 _ ysJ9_max_7cf53.1.2.2) hf hlo hc hs d kk
theorem r_min (X : CallFix p m c cc nL s args TB own) (hls : ls.size = nL) {idx : Nat} (hl : Cond.methodLink own idx yJ9_min_7cf53 ∈ TB) (hf : 1 ≤ R.frames) (hlo : (rest.map fun v => v.category).sum + 13 ≤ R.locals) (hc : cells ≤ R.cells) (hs : slots ≤ R.slots) {x y : Int32} (d : decode cc pc = .ok (.invokestatic idx, 3))
    (kk : W p l e R s m args below meth c H locs cells slots Q (F0 m (pc + 3) ls (.int (if y < x then y else x) :: rest))) : W p l e R s m args below meth c H locs cells slots Q (F0 m pc ls (.int y :: .int x :: rest)) :=
  va_mmin X.1 X.2.1 (X.2.2.1.trans hls.symm) X.2.2.2.1 (X.2.2.2.2 _ hl) (X.2.2.2.2 _ ysJ9_min_7cf53.1.1) (X.2.2.2.2 _ ysJ9_min_7cf53.1.2.1) (X.2.2.2.2 _ ysJ9_min_7cf53.1.2.2) hf hlo hc hs d kk
end RRs
set_option maxRecDepth 100000 in
set_option maxHeartbeats 4000000 in
theorem c_J8_newLength_cabcc {D : va_G} {cI cZ cO : ClassId} {dom : Nat → Nat → Prop} (l : Launch) (L : Lay) (σ : St) (ow : Nat → Prop) (c9 h9 : Nat) (h1 : 1 < h9) (h2 : c9 + h9 < 100000) : RM D cI cZ cO dom l yJ8_newLength_cabcc cJ8_newLength_cabcc 4 ((some FieldType.int)) 1 22 [.int (nI c9), .int (nI 1), .int (nI h9)] L σ ow (nI (c9 + h9)) σ := by
  refine rm_of rfl (Nat.le_of_ble_eq_true rfl) ?_
  intro p e s m below meth c ls X hK hG hr hlocks hl
  have X : CallFix p m c cJ8_newLength_cabcc 4 s _ TB RJ8 := X
  have hx := X.1
  have hb := X.2.1
  have hS : va_S (AA ow s.heap.size) s.heap s.heap [] := va_S.rf
  have hA : ∀ q, ow q → AA ow s.heap.size q := fun _ h => Or.inl h
  have hl : lv_has ls 4 [(0, .int (nI c9)), (1, .int (nI 1)), (2, .int (nI h9))] := hl
  refine lv_iload_n hx hb dJ8_newLength_cabcc_0 rfl (lv_at hl 0 rfl) ?_
  refine lv_iload_n hx hb dJ8_newLength_cabcc_1 rfl (lv_at hl 1 rfl) ?_
  refine lv_iload_n hx hb dJ8_newLength_cabcc_2 rfl (lv_at hl 2 rfl) ?_
  refine r_max X hl.1 ml_J8_194 (Nat.le_of_ble_eq_true rfl) (Nat.le_of_ble_eq_true rfl) (Nat.zero_le _) (Nat.zero_le _) dJ8_newLength_cabcc_3 ?_
  refine r_top (y := nI h9) (if_pos (nI_lt h1 (by omega))) ?_
  refine r_addN hx hb dJ8_newLength_cabcc_6 ?_
  refine lv_istore_n (lv' := [(3, .int (nI (c9 + h9))), (0, .int (nI c9)), (1, .int (nI 1)), (2, .int (nI h9))]) hx hb dJ8_newLength_cabcc_7 rfl hl (by decide) rfl (fun ls hl => ?_)
  refine lv_iconst (v := nI 0) hx hb dJ8_newLength_cabcc_8 (by decide) ?_
  refine lv_iload_n hx hb dJ8_newLength_cabcc_9 rfl (lv_at hl 0 rfl) ?_
  refine r_icmp_geN (tgt := 21) hx hb dJ8_newLength_cabcc_10 (by decide) (by omega) (by omega) (fun c_10 => absurd c_10 (by omega)) (fun c_10 => ?_)
  refine lv_iload_n hx hb dJ8_newLength_cabcc_13 rfl (lv_at hl 0 rfl) ?_
  refine lv_ldc (v := 2147483639) hx hb X.2.2.2.1 (X.2.2.2.2 _ tw_1_179) dJ8_newLength_cabcc_14 ?_
  refine r_top (y := nI 2147483639) (by decide) ?_
  refine r_icmp_gtN (tgt := 21) hx hb dJ8_newLength_cabcc_16 (by decide) (by omega) (by decide) (fun c_16 => absurd c_16 (by omega)) (fun c_16 => ?_)
  refine lv_iload_n hx hb dJ8_newLength_cabcc_19 rfl (lv_at hl 0 rfl) ?_
  exact rm_ret hx hb hr hlocks hG hS (rfl) (rfl) rfl dJ8_newLength_cabcc_20
set_option maxRecDepth 100000 in
set_option maxHeartbeats 4000000 in
theorem c_J3_checkIndex_8e157 {D : va_G} {cI cZ cO : ClassId} {dom : Nat → Nat → Prop} (l : Launch) (L : Lay) (σ : St) (ow : Nat → Prop) (i9 n9 : Nat) (h1 : i9 < n9) (h2 : n9 < 100000) : RM D cI cZ cO dom l yJ3_checkIndex_8e157 cJ3_checkIndex_8e157 3 ((some FieldType.int)) 0 0 [.int (nI i9), .int (nI n9), .null] L σ ow (nI i9) σ := by
  refine rm_of rfl (Nat.le_of_ble_eq_true rfl) ?_
  intro p e s m below meth c ls X hK hG hr hlocks hl
  have X : CallFix p m c cJ3_checkIndex_8e157 3 s _ TB RJ3 := X
  have hx := X.1
  have hb := X.2.1
  have hS : va_S (AA ow s.heap.size) s.heap s.heap [] := va_S.rf
  have hA : ∀ q, ow q → AA ow s.heap.size q := fun _ h => Or.inl h
  have hl : lv_has ls 3 [(0, .int (nI i9)), (1, .int (nI n9)), (2, .null)] := hl
  refine lv_iload_n hx hb dJ3_checkIndex_8e157_0 rfl (lv_at hl 0 rfl) ?_
  refine lv_if_lt (tgt := 9) hx hb dJ3_checkIndex_8e157_1 (by decide) (fun c_1 => absurd c_1 (nI_pos (by omega))) (fun c_1 => ?_)
  refine lv_iload_n hx hb dJ3_checkIndex_8e157_4 rfl (lv_at hl 0 rfl) ?_
  refine lv_iload_n hx hb dJ3_checkIndex_8e157_5 rfl (lv_at hl 1 rfl) ?_
  refine r_icmp_ltN (tgt := 16) hx hb dJ3_checkIndex_8e157_6 (by decide) (by omega) (by omega) (fun c_6 => ?_) (fun c_6 => absurd h1 (by omega))
  refine lv_iload_n hx hb dJ3_checkIndex_8e157_16 rfl (lv_at hl 0 rfl) ?_
  exact rm_ret hx hb hr hlocks hG hS (rfl) (rfl) rfl dJ3_checkIndex_8e157_17
set_option maxRecDepth 100000 in
set_option maxHeartbeats 4000000 in
theorem c_J15_checkIndex_7cf53 {D : va_G} {cI cZ cO : ClassId} {dom : Nat → Nat → Prop} (l : Launch) (L : Lay) (σ : St) (ow : Nat → Prop) (i9 n9 : Nat) (h1 : i9 < n9) (h2 : n9 < 100000) : RM D cI cZ cO dom l yJ15_checkIndex_7cf53 cJ15_checkIndex_7cf53 2 ((some FieldType.int)) 1 22 [.int (nI i9), .int (nI n9)] L σ ow (nI i9) σ := by
  refine rm_of rfl (Nat.le_of_ble_eq_true rfl) ?_
  intro p e s m below meth c ls X hK hG hr hlocks hl
  have X : CallFix p m c cJ15_checkIndex_7cf53 2 s _ TB RJ15 := X
  have hx := X.1
  have hb := X.2.1
  have hS : va_S (AA ow s.heap.size) s.heap s.heap [] := va_S.rf
  have hA : ∀ q, ow q → AA ow s.heap.size q := fun _ h => Or.inl h
  have hl : lv_has ls 2 [(0, .int (nI i9)), (1, .int (nI n9))] := hl
  refine lv_iload_n hx hb dJ15_checkIndex_7cf53_0 rfl (lv_at hl 0 rfl) ?_
  refine lv_iload_n hx hb dJ15_checkIndex_7cf53_1 rfl (lv_at hl 1 rfl) ?_
  refine lv_null hx hb dJ15_checkIndex_7cf53_2 ?_
  refine rm_callS X hK hG hS ysJ3_checkIndex_8e157 ml_J15_105 [.int (nI i9), .int (nI n9), .null] [] (c_J3_checkIndex_8e157 l L σ ow i9 n9 h1 h2) rfl hl.1 rfl (Nat.le_of_ble_eq_true rfl) ⟨Nat.le_of_ble_eq_true rfl, Nat.le_of_ble_eq_true rfl⟩ ⟨Nat.zero_le _, Nat.zero_le _⟩ dJ15_checkIndex_7cf53_3 (fun H locs hG hS => ?_)
  exact rm_ret hx hb hr hlocks hG hS (rfl) (rfl) rfl dJ15_checkIndex_7cf53_6
set_option maxRecDepth 100000 in
set_option maxHeartbeats 4000000 in
theorem c_Jx4a65c_size_8abf5 {D : va_G} {cI cZ cO : ClassId} {dom : Nat → Nat → Prop} (l : Launch) (L : Lay) (σ : St) (ow : Nat → Prop) (j9 : Nat) (hd : dom 1099 j9) : RM D cI cZ cO dom l yJx4a65c_size_8abf5 cJx4a65c_size_8abf5 1 ((some FieldType.int)) 0 0 [.ref (L 1099 j9)] L σ ow (nI (σ.1 1002 j9)) σ := by
  refine rm_of rfl (Nat.le_of_ble_eq_true rfl) ?_
  intro p e s m below meth c ls X hK hG hr hlocks hl
  have X : CallFix p m c cJx4a65c_size_8abf5 1 s _ TB RJx4a65c := X
  have hx := X.1
  have hb := X.2.1
  have hS : va_S (AA ow s.heap.size) s.heap s.heap [] := va_S.rf
  have hA : ∀ q, ow q → AA ow s.heap.size q := fun _ h => Or.inl h
  have hl : lv_has ls 1 [(0, .ref (L 1099 j9))] := hl
  refine lv_aload_n hx hb dJx4a65c_size_8abf5_0 rfl (lv_at hl 0 rfl) ?_
  refine gt_Jx4a65c_48 X hK hG hd (x := σ.1 1002 j9) rfl dJx4a65c_size_8abf5_1 ?_
  exact rm_ret hx hb hr hlocks hG hS (rfl) (rfl) rfl dJx4a65c_size_8abf5_4
set_option maxRecDepth 100000 in
set_option maxHeartbeats 4000000 in
theorem c_Jx4a65c_isEmpty_aae02 {D : va_G} {cI cZ cO : ClassId} {dom : Nat → Nat → Prop} (l : Launch) (L : Lay) (σ : St) (ow : Nat → Prop) (j9 : Nat) (hd : dom 1099 j9) (h2 : σ.1 1002 j9 < 100000) : RM D cI cZ cO dom l yJx4a65c_isEmpty_aae02 cJx4a65c_isEmpty_aae02 1 ((some FieldType.boolean)) 0 0 [.ref (L 1099 j9)] L σ ow (b2i (σ.1 1002 j9 = 0)) σ := by
  refine rm_of rfl (Nat.le_of_ble_eq_true rfl) ?_
  intro p e s m below meth c ls X hK hG hr hlocks hl
  have X : CallFix p m c cJx4a65c_isEmpty_aae02 1 s _ TB RJx4a65c := X
  have hx := X.1
  have hb := X.2.1
  have hS : va_S (AA ow s.heap.size) s.heap s.heap [] := va_S.rf
  have hA : ∀ q, ow q → AA ow s.heap.size q := fun _ h => Or.inl h
  have hl : lv_has ls 1 [(0, .ref (L 1099 j9))] := hl
  refine lv_aload_n hx hb dJx4a65c_isEmpty_aae02_0 rfl (lv_at hl 0 rfl) ?_
  refine gt_Jx4a65c_48 X hK hG hd (x := σ.1 1002 j9) rfl dJx4a65c_isEmpty_aae02_1 ?_
  refine r_if_neN (tgt := 11) hx hb dJx4a65c_isEmpty_aae02_4 (by decide) (by omega) (fun c_4 => ?_) (fun c_4 => ?_)
  · refine lv_iconst (v := nI 0) hx hb dJx4a65c_isEmpty_aae02_11 (by decide) ?_
    exact rm_ret hx hb hr hlocks hG hS ((b2i_f c_4).symm) (rfl) rfl dJx4a65c_isEmpty_aae02_12
  · refine lv_iconst (v := nI 1) hx hb dJx4a65c_isEmpty_aae02_7 (by decide) ?_
    refine lv_goto (tgt := 12) hx hb dJx4a65c_isEmpty_aae02_8 (by decide) ?_
    exact rm_ret hx hb hr hlocks hG hS ((b2i_t c_4).symm) (rfl) rfl dJx4a65c_isEmpty_aae02_12
theorem c_Jx4a65c_elementData_915e3 {D : va_G} {cI cZ cO : ClassId} {dom : Nat → Nat → Prop} (l : Launch) (L : Lay) (σ : St) (ow : Nat → Prop) (j9 i9 : Nat) (hd : dom 1099 j9) (hd1 : dom 1001 j9) (hi : i9 < σ.1 1002 j9) (hc : σ.1 1002 j9 ≤ σ.1 1003 j9) (h5 : σ.1 1003 j9 < 100000) : RR D cI cZ cO dom l yJx4a65c_elementData_915e3 cJx4a65c_elementData_915e3 2 (some (FieldType.object "java/lang/Object")) 0 0 [.ref (L 1099 j9), .int (nI i9)] L σ ow (some (L (fel j9) (σ.2.2.1 1001 j9 i9))) σ := by
  refine rr_of rfl (Nat.le_of_ble_eq_true rfl) ?_
  intro p e s m below meth c ls X hK hG hr hlocks hl
  have X : CallFix p m c cJx4a65c_elementData_915e3 2 s _ TB RJx4a65c := X
  have hx := X.1
  have hb := X.2.1
  have hS : va_S (AA ow s.heap.size) s.heap s.heap [] := va_S.rf
  have hl : lv_has ls 2 [(0, .ref (L 1099 j9)), (1, .int (nI i9))] := hl
  refine lv_aload_n hx hb dJx4a65c_elementData_915e3_0 rfl (lv_at hl 0 rfl) ?_
  refine gt_Jx4a65c_9 X hK hG hd dJx4a65c_elementData_915e3_1 ?_
  refine lv_iload_n hx hb dJx4a65c_elementData_915e3_4 rfl (lv_at hl 1 rfl) ?_
  refine pw_aldq X hK hG hd1 hi hc h5 dJx4a65c_elementData_915e3_5 ?_
  exact rr_ret hx hb hr (Or.inl ⟨_, rfl⟩) hlocks hG hS (v := some _) rfl rfl dJx4a65c_elementData_915e3_6
theorem c_Jx4a65c_get_915e3 {D : va_G} {cI cZ cO : ClassId} {dom : Nat → Nat → Prop} (l : Launch) (L : Lay) (σ : St) (ow : Nat → Prop) (j9 i9 : Nat) (hd : dom 1099 j9) (hd1 : dom 1001 j9) (hi : i9 < σ.1 1002 j9) (hc : σ.1 1002 j9 ≤ σ.1 1003 j9) (h5 : σ.1 1003 j9 < 100000) : RR D cI cZ cO dom l yJx4a65c_get_915e3 cJx4a65c_get_915e3 2 (some (FieldType.object "java/lang/Object")) 3 100 [.ref (L 1099 j9), .int (nI i9)] L σ ow (some (L (fel j9) (σ.2.2.1 1001 j9 i9))) σ := by
  refine rr_of rfl (Nat.le_of_ble_eq_true rfl) ?_
  intro p e s m below meth c ls X hK hG hr hlocks hl
  have X : CallFix p m c cJx4a65c_get_915e3 2 s _ TB RJx4a65c := X
  have hx := X.1
  have hb := X.2.1
  have hS : va_S (AA ow s.heap.size) s.heap s.heap [] := va_S.rf
  have hl : lv_has ls 2 [(0, .ref (L 1099 j9)), (1, .int (nI i9))] := hl
  refine lv_iload_n hx hb dJx4a65c_get_915e3_0 rfl (lv_at hl 1 rfl) ?_
  refine lv_aload_n hx hb dJx4a65c_get_915e3_1 rfl (lv_at hl 0 rfl) ?_
  refine gt_Jx4a65c_48 X hK hG hd rfl dJx4a65c_get_915e3_2 ?_
  refine rm_callSg X hK hG hS (fun q h => h) ysJ15_checkIndex_7cf53 ml_Jx4a65c_118 [.int (nI i9), .int (nI (σ.1 1002 j9))] [] (c_J15_checkIndex_7cf53 l L σ ow i9 (σ.1 1002 j9) hi (by omega)) rfl hl.1 rfl (Nat.le_of_ble_eq_true rfl) ⟨Nat.le_of_ble_eq_true rfl, Nat.le_of_ble_eq_true rfl⟩ ⟨Nat.zero_le _, Nat.zero_le _⟩ dJx4a65c_get_915e3_5 (fun H locs hG hS => ?_)
  refine lv_pop hx hb dJx4a65c_get_915e3_8 rfl ?_
  refine lv_aload_n hx hb dJx4a65c_get_915e3_9 rfl (lv_at hl 0 rfl) ?_
  refine lv_iload_n hx hb dJx4a65c_get_915e3_10 rfl (lv_at hl 1 rfl) ?_
  refine rr_callVg X hK hG hS (fun q h => h) yvJx4a65c_elementData_915e3 ml_Jx4a65c_123 kJx4a65c rfl hd [.int (nI i9)] [] (c_Jx4a65c_elementData_915e3 l L σ ow j9 i9 hd hd1 hi hc h5) rfl hl.1 rfl (Nat.le_of_ble_eq_true rfl) ⟨Nat.le_of_ble_eq_true rfl, Nat.le_of_ble_eq_true rfl⟩ ⟨Nat.zero_le _, Nat.zero_le _⟩ dJx4a65c_get_915e3_11 (fun H locs hG hS => ?_)
  exact rr_ret hx hb hr (Or.inl ⟨_, rfl⟩) hlocks hG hS (v := some _) rfl rfl dJx4a65c_get_915e3_14
