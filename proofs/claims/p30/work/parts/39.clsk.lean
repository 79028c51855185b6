/-! a row that is filled with a number; a row that is copied -/
def m_fillA (F k v : Nat) : Nat → St → St
  | 0, σ => σ
  | n + 1, σ => wA (m_fillA F k v n σ) F k n v
theorem c_fillA {D : va_G} {cI cZ cO : ClassId} {dom : Nat → Nat → Prop} (l : Launch) (L : Lay) (σ : St) (ow : Nat → Prop) (F k N v : Nat) (hd : dom F k) (hF : FA F 2) (hN : flen F = N) (h5 : N < 100000) : RV D cI cZ cO dom l yJ7_fill_53178 cJ7_fill_53178 4 0 0 [.ref (L F k), .int (nI v)] L σ ow (m_fillA F k v N σ) := by
  refine rv_of rfl (Nat.le_of_ble_eq_true rfl) ?_
  intro p e s m below meth c ls X hK hG hr hlocks hl
  have X : CallFix p m c cJ7_fill_53178 4 s _ TB RJ7 := X
  have hx := X.1
  have hb := X.2.1
  have hS : va_S (AA ow s.heap.size) s.heap s.heap [] := va_S.rf
  have hA : ∀ q, ow q → AA ow s.heap.size q := fun _ h => Or.inl h
  have hl : lv_has ls 4 [(0, .ref (L F k)), (1, .int (nI v))] := hl
  refine lv_iconst (v := nI 0) hx hb dJ7_fill_53178_0 (by decide) ?_
  refine lv_istore_n (lv' := [(2, .int (nI 0)), (0, .ref (L F k)), (1, .int (nI v))]) hx hb dJ7_fill_53178_1 rfl hl (by decide) rfl (fun ls hl => ?_)
  refine lv_aload_n hx hb dJ7_fill_53178_2 rfl (lv_at hl 1 rfl) ?_
  refine pw_alen X hK hG F (Or.inl hF) hd hN dJ7_fill_53178_3 ?_
  refine lv_istore_n (lv' := [(3, .int (nI N)), (2, .int (nI 0)), (0, .ref (L F k)), (1, .int (nI v))]) hx hb dJ7_fill_53178_4 rfl hl (by decide) rfl (fun ls hl => ?_)
  refine r_loop (ι := Nat) (fun (n9 : Nat) => [(0, .ref (L F k)), (1, .int (nI v)), (2, .int (nI n9)), (3, .int (nI N))]) (fun (n9 : Nat) => m_fillA F k v n9 σ) (fun (n9 : Nat) => N - n9) (fun (n9 : Nat) => n9 ≤ N) 0 (Nat.zero_le _) hG hS (lv_sub hl [2, 3, 1, 0] rfl) ?_
  rintro n9 hinv ih H locs ls hG hS hl
  have hG : PW D cI cZ cO dom L (m_fillA F k v n9 σ) ow H := hG
  have hl : lv_has ls 4 [(0, .ref (L F k)), (1, .int (nI v)), (2, .int (nI n9)), (3, .int (nI N))] := hl
  have hk : n9 ≤ N := hinv
  refine lv_iload_n hx hb dJ7_fill_53178_5 rfl (lv_at hl 2 rfl) ?_
  refine lv_iload_n hx hb dJ7_fill_53178_6 rfl (lv_at hl 3 rfl) ?_
  refine r_icmp_geN (tgt := 20) hx hb dJ7_fill_53178_7 (by decide) (by omega) (by omega) (fun c_7 => ?_) (fun c_7 => ?_)
  · have e : n9 = N := by omega
    subst e
    exact rv_ret hx hb hr hlocks hG hS rfl dJ7_fill_53178_20
  · refine lv_aload_n hx hb dJ7_fill_53178_10 rfl (lv_at hl 0 rfl) ?_
    refine lv_iload_n hx hb dJ7_fill_53178_11 rfl (lv_at hl 2 rfl) ?_
    refine lv_iload_n hx hb dJ7_fill_53178_12 rfl (lv_at hl 1 rfl) ?_
    refine pw_astN X hK hG hS hA F hF hd hN (i := n9) c_7 (by omega) dJ7_fill_53178_13 (fun H locs hG hS => ?_)
    refine r_iincN (b := 1) (lv' := [(2, .int (nI (n9 + 1))), (0, .ref (L F k)), (1, .int (nI v)), (3, .int (nI N))]) hx hb dJ7_fill_53178_14 hl (k := 2) rfl (by decide) (by decide) rfl (fun ls hl => ?_)
    refine lv_goto (tgt := 5) hx hb dJ7_fill_53178_17 (by decide) ?_
    exact ih (n9 + 1) (by show N - (n9 + 1) < N - n9; omega) (by show n9 + 1 ≤ N; omega) H locs ls hG hS (lv_sub hl [1, 2, 0, 3] rfl)
/-- a row of raw ints, anew -/
def wR (σ : St) (F k : Nat) (f : Nat → Int32) : St := (σ.1, σ.2.1, σ.2.2.1, up2 σ.2.2.2 F k f)
section CPs
variable {D : va_G} {cI cZ cO : ClassId} {dom : Nat → Nat → Prop} {L : Lay} {σ : St} {ow A : Nat → Prop}
variable {p : Program} {l : Launch} {e : Env} {R : Room} {s : State} {m : MethodId} {args : Array Value} {below : List Frame} {meth : Method} {c : Code} {H H0 : Heap} {locs : List Loc} {cells slots : Nat} {Q : State → Prop}
variable {cc : ByteArray} {pc nL : Nat} {ls : Array Slot} {rest : List Value} {own : String}
theorem pw_copyI (X : CallFix p m c cc nL s args TB own) (hK : KK D cI cZ cO s) (hG : PW D cI cZ cO dom L σ ow H) (hS : va_S A H0 H locs) (hA : ∀ q, ow q → A q) (hls : ls.size = nL) {F G j k N idx : Nat} (hF : FA F 3) (hG3 : FA G 3) (hd : dom F k) (hd2 : dom G j) (hN : flen F = N) (hM : flen G = N) (h5 : N < 100000) (hne : ¬ (F = G ∧ k = j)) (hl : Cond.methodLink own idx arraycopyName ∈ TB) (hf : 1 ≤ R.frames) (hlo : (rest.map fun v => v.category).sum + 30 ≤ R.locals) (d : decode cc pc = .ok (.invokestatic idx, 3))
    (kk : ∀ (H1 : Heap) (locs1 : List Loc), PW D cI cZ cO dom L (wR σ G j (fun i => if i < N then σ.2.2.2 F k i else σ.2.2.2 G j i)) ow H1 → va_S A H0 H1 locs1 → W p l e R s m args below meth c H1 locs1 cells slots Q (F0 m (pc + 3) ls rest)) : W p l e R s m args below meth c H locs cells slots Q (F0 m pc ls (.int (nI N) :: .int (nI 0) :: .ref (L G j) :: .int (nI 0) :: .ref (L F k) :: rest)) := by
  have h1 := hG.1 _ _ hd
  have h2 := hG.1 _ _ hd2
  rw [ent_3 hF.1 hF.2.1 hF.2.2, hN] at h1
  rw [ent_3 hG3.1 hG3.2.1 hG3.2.2, hM] at h2
  have hapt : L F k ≠ L G j := fun z => hne (hG.2.1 _ _ _ _ hd hd2 z)
  have hz0 : ¬ (nI 0) < 0 := by decide
  have hzN : ¬ (nI N) < 0 := nI_pos (by omega)
  have e0 : (nI 0).toNatClampNeg = 0 := by decide
  have eN : (nI N).toNatClampNeg = N := nI_clamp (by omega)
  obtain ⟨-, kA, hkA, cmA, hkk⟩ := (hK.2 0 _ rfl).1 N (fun i => .int (σ.2.2.2 F k i))
  obtain ⟨-, kB, hkB, cmB, hkl⟩ := (hK.2 0 _ rfl).1 N (fun i => .int (σ.2.2.2 G j i))
  intro T hT Y
  have z0 : (nI 0).toInt = 0 := by decide
  have zN : (nI N).toInt = (N : Int) := nI_toInt (by omega)
  obtain ⟨vm', Y', step⟩ := Y.arraycopy X.1 X.2.2.2.1 (X.2.2.2.2 _ hl) (X.2.2.2.2 _ tw_1_214) (X.2.2.2.2 _ tw_1_213) (X.2.2.2.2 _ tw_1_11) (src := L F k) (dst := L G j) (cs := vp_cell cI (N, .inl (σ.2.2.2 F k))) (cd := vp_cell cI (N, .inl (σ.2.2.2 G j))) (srcPos := nI 0) (destPos := nI 0) (n := nI N) (by rw [hT]; exact h1) (by rw [hT]; exact h2)
    (fun _ h => by cases h) (fun _ h => by cases h) (fun h => by cases h) (fun h => by cases h) hkA hkB hkk hkl (rfl : (refKind FieldType.int != refKind FieldType.int || !refKind FieldType.int && FieldType.int != FieldType.int) = false) hz0 hz0 hzN
    (by rw [z0, zN]; show ¬ _ > ((arrV cI N (fun i => .int (σ.2.2.2 F k i))).slots.size : Int); rw [arrV_size]; omega)
    (by rw [z0, zN]; show ¬ _ > ((arrV cI N (fun i => .int (σ.2.2.2 G j i))).slots.size : Int); rw [arrV_size]; omega)
    (fun vm1 _ i hi => by
      rw [e0, Nat.zero_add]
      rw [eN] at hi
      have e : (vp_cell cI (N, .inl (σ.2.2.2 F k))).slots.getD i .null = .int (σ.2.2.2 F k i) := by
        show (arrV cI N (fun i => .int (σ.2.2.2 F k i))).slots.getD _ _ = _
        rw [Array.getD_eq_getD_getElem?, arrV_read _ _ hi]
        rfl
      rw [e]
      exact ⟨rfl, trivial⟩)
    (g := F0 m pc ls (.int (nI N) :: .int (nI 0) :: .ref (L G j) :: .int (nI 0) :: .ref (L F k) :: rest)) rfl (by show ls.size = c.maxLocals; exact hls.trans X.2.2.1.symm) (rest := rest) rfl (by rw [X.2.1]; exact d) hf (by
      show 2 * 0 + _ + _ ≤ _
      have : nativeFrameWords "java/lang/System" "arraycopy" 5 + 11 ≤ 30 := by decide
      omega)
  have e1 : copied (vp_cell cI (N, .inl (σ.2.2.2 F k))) (vp_cell cI (N, .inl (σ.2.2.2 G j))) (nI 0) (nI 0) (nI N) = vp_cell cI (N, .inl (va_cpy (σ.2.2.2 F k) (σ.2.2.2 G j) (nI 0).toNatClampNeg (nI 0).toNatClampNeg (nI N).toNatClampNeg)) := va_copied (fun z => .int z) cI cI (σ.2.2.2 F k) (σ.2.2.2 G j) (by rw [e0, eN]; omega)
  have e2 : va_cpy (σ.2.2.2 F k) (σ.2.2.2 G j) (nI 0).toNatClampNeg (nI 0).toNatClampNeg (nI N).toNatClampNeg = fun i => if i < N then σ.2.2.2 F k i else σ.2.2.2 G j i := funext fun i => by
    unfold va_cpy
    rw [e0, eN]
    by_cases c : i < N
    · rw [if_pos ⟨Nat.zero_le _, by omega⟩, if_pos c, Nat.zero_add, Nat.sub_zero]
    · rw [if_neg (fun z => c (by omega)), if_neg c]
  rw [e1, e2] at Y' step
  have hlt : L G j < H.size := (Array.getElem?_eq_some_iff.mp h2).1
  generalize hx9 : vp_cell cI (N, .inl (fun i => if i < N then σ.2.2.2 F k i else σ.2.2.2 G j i)) = cell9 at Y' step
  have hheap : ((T.setVm vm').setCell (L G j) cell9).heap = H.setIfInBounds (L G j) cell9 := by rw [← hT]; rfl
  have oq : ∀ q : Nat, q ≠ L G j → (H.setIfInBounds (L G j) cell9)[q]? = H[q]? := fun q hq => by simp [Array.getElem?_setIfInBounds, Ne.symm hq]
  have hag : A (L G j) := hA _ (hG.2.2 _ _ hd2)
  obtain ⟨t, a1, b1⟩ := kk _ _ (hG.upd hd2 (by
      rw [ent_3 hG3.1 hG3.2.1 hG3.2.2, hM]
      show (H.setIfInBounds (L G j) cell9)[L G j]? = some (vp_cell _ _)
      rw [show (wR σ G j (fun i => if i < N then σ.2.2.2 F k i else σ.2.2.2 G j i)).2.2.2 G j = fun i => if i < N then σ.2.2.2 F k i else σ.2.2.2 G j i from by show up2 _ _ _ _ _ _ = _; exact up2_s, hx9]
      simp [hlt]) oq (fun F' k' hn => ent_a (σ := σ) (σ' := wR σ G j (fun i => if i < N then σ.2.2.2 F k i else σ.2.2.2 G j i)) (F := G) (k := j) hG3.2.1 rfl rfl (fun _ _ _ => rfl) (fun F9 k9 h9 => by show up2 _ _ _ _ _ _ = _; exact up2_n h9) hn)) ⟨by simp; exact hS.1, fun q g1 g2 => by
      rw [oq q (fun z => g2 (by rw [z]; exact hag))]
      exact hS.2.1 q g1 g2, fun q hq => by
      rcases List.mem_append.mp hq with z | z
      · exact hS.2.2 q z
      · obtain ⟨y, -, hy⟩ := List.mem_map.mp z
        rw [← hy]
        exact hag⟩ _ hheap Y'
  exact ⟨t, step t a1, b1⟩
end CPs
