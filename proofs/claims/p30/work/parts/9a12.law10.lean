/-! rows that the law copies: a new row beside those of the region -/
def xR9 (σ : St) (F k : Nat) (f : Nat → Nat) : St := (σ.1, σ.2.1, up2 σ.2.2.1 F k f, σ.2.2.2)
def xS9 (σ : St) (F k : Nat) (f : Nat → Int32) : St := (σ.1, σ.2.1, σ.2.2.1, up2 σ.2.2.2 F k f)
def dA (dom : Nat → Nat → Prop) (F k : Nat) : Nat → Nat → Prop := fun F' k' => dom F' k' ∨ (F' = F ∧ k' = k)
def LD (dom : Nat → Nat → Prop) : Prop := ∀ F k, dom F k → 900 ≤ F ∧ F < 906
theorem LD.a {dom : Nat → Nat → Prop} {F k : Nat} (h : LD dom) (hF : 900 ≤ F ∧ F < 906) : LD (dA dom F k) := fun F' k' hd => hd.elim (h F' k') (fun z => by rw [z.1]; exact hF)
theorem up3_up2 {α : Type} {g : Nat → Nat → Nat → α} {F k i : Nat} {f : Nat → α} {v : α} : up3 (up2 g F k f) F k i v = up2 g F k (up1 f i v) := by
  funext F' k'
  unfold up3 up2
  by_cases e : F' = F
  · subst e
    simp only [if_pos rfl]
    unfold up1
    by_cases e2 : k' = k
    · subst e2; simp
    · simp [e2]
  · simp only [if_neg e]
section CPs
variable {D : va_G} {cI cZ cO : ClassId} {dom : Nat → Nat → Prop} {L L' : Lay} {σ σ' : St} {ow ow' : Nat → Prop}
theorem ent_law {F k : Nat} (hF : 900 ≤ F ∧ F < 906) (h1 : σ'.2.2.1 F k = σ.2.2.1 F k) (h2 : σ'.2.2.2 F k = σ.2.2.2 F k) : ent cI cZ cO L' σ' F k = ent cI cZ cO L σ F k := by
  unfold ent
  simp only [if_neg (show ¬ F % 100 = 99 by omega), if_neg (show ¬ F = 1001 by omega), h1, h2]
theorem PW.rel {dom' : Nat → Nat → Prop} {H : Heap} (h : PW D cI cZ cO dom L σ ow H) (hL : LD dom') (hd : ∀ F k, dom' F k → dom F k) (hl : ∀ F k, dom' F k → L' F k = L F k) (h1 : ∀ F k, dom' F k → σ'.2.2.1 F k = σ.2.2.1 F k) (h2 : ∀ F k, dom' F k → σ'.2.2.2 F k = σ.2.2.2 F k) (ho : ∀ F k, dom' F k → ow' (L' F k)) : PW D cI cZ cO dom' L' σ' ow' H := by
  refine ⟨fun F k z => ?_, fun F k F' k' z z' e => ?_, ho⟩
  · rw [hl F k z, ent_law (L := L) (hL F k z) (h1 F k z) (h2 F k z)]
    exact h.1 F k (hd F k z)
  · rw [hl F k z, hl F' k' z'] at e
    exact h.2.1 F k F' k' (hd F k z) (hd F' k' z') e
theorem PW.new {H H1 : Heap} (h : PW D cI cZ cO dom L σ ow H) (hL : LD dom) {F k : Nat} (hF : 900 ≤ F ∧ F < 906) (hf : ¬ dom F k) {n : Nat} (hn : H.size = n) (he : va_at D vwCl (n, ent cI cZ cO L σ' F k) H1) (hoq : ∀ q, q < n → H1[q]? = H[q]?) (h1 : ∀ F' k', dom F' k' → σ'.2.2.1 F' k' = σ.2.2.1 F' k') (h2 : ∀ F' k', dom F' k' → σ'.2.2.2 F' k' = σ.2.2.2 F' k') : PW D cI cZ cO (dA dom F k) (up2 L F k n) σ' (fun q => ow q ∨ q = n) H1 := by
  have hlt : ∀ F' k', dom F' k' → L F' k' < n := fun F' k' hd => by rw [← hn]; exact (h.1 F' k' hd).lt
  have hne : ∀ F' k', dom F' k' → up2 L F k n F' k' = L F' k' := fun F' k' hd => up2_n (fun z => hf (by rw [← z.1, ← z.2]; exact hd))
  refine ⟨fun F' k' hd => ?_, fun F1 k1 F2 k2 z1 z2 e => ?_, fun F' k' hd => ?_⟩
  · rcases hd with hd | ⟨rfl, rfl⟩
    · rw [hne F' k' hd, ent_law (L := L) (hL F' k' hd) (h1 F' k' hd) (h2 F' k' hd)]
      exact (h.1 F' k' hd).kept (hoq _ (hlt F' k' hd))
    · rw [up2_s, ent_law (σ := σ') (L := L) hF rfl rfl]
      exact he
  · rcases z1 with z1 | ⟨rfl, rfl⟩ <;> rcases z2 with z2 | ⟨rfl, rfl⟩
    · rw [hne _ _ z1, hne _ _ z2] at e
      exact h.2.1 _ _ _ _ z1 z2 e
    · rw [hne _ _ z1, up2_s] at e
      have := hlt _ _ z1
      omega
    · rw [hne _ _ z2, up2_s] at e
      have := hlt _ _ z2
      omega
    · exact ⟨rfl, rfl⟩
  · rcases hd with hd | ⟨rfl, rfl⟩
    · rw [hne F' k' hd]; exact Or.inl (h.2.2 F' k' hd)
    · rw [up2_s]; exact Or.inr rfl
/-- a copy of a row of longs, so far -/
def cpj (kr kn n : Nat) (σ : St) : St := xR9 σ 900 kn (fun i => if i < n then σ.2.2.1 900 kr i else 0)
theorem cpj_s (kr kn n : Nat) (σ : St) : wA (cpj kr kn n σ) 900 kn n (σ.2.2.1 900 kr n) = cpj kr kn (n + 1) σ := by
  unfold cpj xR9 wA
  have e : up1 (fun i => if i < n then σ.2.2.1 900 kr i else 0) n (σ.2.2.1 900 kr n) = fun i => if i < n + 1 then σ.2.2.1 900 kr i else 0 := by
    funext i
    unfold up1
    by_cases h : i = n
    · subst h; simp
    · by_cases h2 : i < n
      · rw [if_neg h]; show (if i < n then _ else _) = _; rw [if_pos h2, if_pos (by omega)]
      · rw [if_neg h]; show (if i < n then _ else _) = _; rw [if_neg h2, if_neg (by omega)]
  show (σ.1, σ.2.1, up3 (up2 σ.2.2.1 900 kn _) 900 kn n _, σ.2.2.2) = _
  rw [up3_up2, e]
/-- a copy of a row of ints, so far -/
def kpi (F kr kn n : Nat) (σ : St) : St := xS9 (xR9 σ F kn (fun _ => 40)) F kn (fun i => if i < n then σ.2.2.2 F kr i else 0)
theorem kpi_s (F kr kn n : Nat) (σ : St) : wB (kpi F kr kn n σ) F kn n (σ.2.2.2 F kr n) = kpi F kr kn (n + 1) σ := by
  unfold kpi xR9 xS9 wB
  have e : up1 (fun i => if i < n then σ.2.2.2 F kr i else 0) n (σ.2.2.2 F kr n) = fun i => if i < n + 1 then σ.2.2.2 F kr i else 0 := by
    funext i
    unfold up1
    by_cases h : i = n
    · subst h; simp
    · by_cases h2 : i < n
      · rw [if_neg h]; show (if i < n then _ else _) = _; rw [if_pos h2, if_pos (by omega)]
      · rw [if_neg h]; show (if i < n then _ else _) = _; rw [if_neg h2, if_neg (by omega)]
  show (σ.1, σ.2.1, up2 σ.2.2.1 F kn _, up3 (up2 σ.2.2.2 F kn _) F kn n _) = _
  rw [up3_up2, e]
def CPQ (D : va_G) (cI cZ cO : ClassId) (dom : Nat → Nat → Prop) (L : Lay) (ow : Nat → Prop) (sz F kn : Nat) (σ' : St) : Array Value → State → Outcome → State → Prop := va_Qr (fun (_ : Unit) => True) (fun _ a t => a = sz ∧ PW D cI cZ cO (dA dom F kn) (up2 L F kn sz) σ' (fun q => ow q ∨ q = sz) t.heap) (AA ow sz)
set_option maxRecDepth 100000 in
set_option maxHeartbeats 4000000 in
theorem c_L_copied (l : Launch) (kr kn : Nat) (hLD : LD dom) (hr : dom 900 kr) (hn : ¬ dom 900 kn) (sz : Nat) : Met l yL_copied (wM yL_copied cL_copied 3 (some (FieldType.array FieldType.long))) { frames := 0, cells := 1, slots := 48, locals := 0 } (RP D cI cZ cO dom L σ ow sz [.ref (L 900 kr)]) (CPQ D cI cZ cO dom L ow sz 900 kn (cpj kr kn 48 σ)) 1 48 (AA ow sz) := by
  refine Met.ofW (cc := cL_copied) (maxL := 3) (ret := some (FieldType.array FieldType.long)) rfl rfl ?_
  intro p e s m args below meth c s₁ B hml hv
  obtain ⟨rfl, hsz, hK, hG⟩ := hv
  subst hsz
  rw [lg_entry_eq]
  have hl := lv_entry [.ref (L 900 kr)] (n := 3) (Nat.le_of_ble_eq_true rfl)
  generalize (lg_sl [Value.ref (L 900 kr)] ++ List.replicate (3 - (lg_sl [Value.ref (L 900 kr)]).length) Slot.unset).toArray = ls at hl ⊢
  have X : CallFix p m c cL_copied 3 s _ TB RL := ⟨B.exec, B.bytes, hml, findClass_of_methodNamed B.named, wm_hts (atoms_spec (ws := wM yL_copied cL_copied 3 (some (FieldType.array FieldType.long))) B.pre)⟩
  have hx := X.1
  have hb := X.2.1
  have hne : ¬ (900 = 900 ∧ kr = kn) := fun z => hn (by rw [← z.2]; exact hr)
  have hl : lv_has ls 3 [(0, .ref (up2 L 900 kn s.heap.size 900 kr))] := by rw [up2_n hne]; exact hl
  refine lv_bipush (v := nI 48) hx hb dL_copied_0 (by decide) ?_
  refine va_newaK (atype := .long) X.1 X.2.1 (X.2.2.2.2 _ tw_2_95) rfl dL_copied_2 rfl (by decide +kernel) (N := 48) (by decide +kernel) (by decide) (by show 0 + 1 ≤ 1; omega) (by show 0 + 48 ≤ 48; omega) rfl (fun H1 cA e1 z1 o1 hAr hNm => ?_)
  have hcJ : cA = cZ := Option.some.inj (hNm.symm.trans (hK.2 1 (cZ, .long) rfl).2)
  subst hcJ
  have hG : PW D cI cA cO (dA dom 900 kn) (up2 L 900 kn s.heap.size) (cpj kr kn 0 σ) (fun q => ow q ∨ q = s.heap.size) H1 := hG.new hLD ⟨by decide, by decide⟩ hn rfl (by
    have e : (fun i => lJ ((cpj kr kn 0 σ).2.2.1 900 kn i)) = fun _ => (0 : Int64) := funext fun i => by
      show lJ (up2 σ.2.2.1 900 kn _ 900 kn i) = 0
      rw [up2_s]
      rfl
    rw [ent_4 fa_900.1 fa_900.2.1 fa_900.2.2, e]
    show H1[s.heap.size]? = some (vp_cell _ _)
    exact e1) o1 (fun F' k' hd => up2_n (fun z => hn (by rw [← z.1, ← z.2]; exact hd))) (fun _ _ _ => rfl)
  have hS : va_S (AA ow s.heap.size) s.heap H1 [] := ⟨by rw [z1]; omega, fun q h1 h2 => o1 q h1, fun q h => absurd h List.not_mem_nil⟩
  have hA : ∀ q, (ow q ∨ q = s.heap.size) → AA ow s.heap.size q := fun q h => h.elim Or.inl (fun z => Or.inr (by omega))
  refine W.eq (g2 := F0 m 4 ls [.ref s.heap.size]) rfl ?_
  refine lv_astore_n (lv' := [(1, .ref s.heap.size), (0, .ref (up2 L 900 kn s.heap.size 900 kr))]) hx hb dL_copied_4 rfl hl (by decide) rfl (fun ls hl => ?_)
  have eL : up2 L 900 kn s.heap.size 900 kn = s.heap.size := up2_s
  have hl : lv_has ls 3 [(1, .ref (up2 L 900 kn s.heap.size 900 kn)), (0, .ref (up2 L 900 kn s.heap.size 900 kr))] := by rw [eL]; exact hl
  refine lv_iconst (v := nI 0) hx hb dL_copied_5 (by decide) ?_
  refine lv_istore_n (lv' := [(2, .int (nI 0)), (1, .ref (up2 L 900 kn s.heap.size 900 kn)), (0, .ref (up2 L 900 kn s.heap.size 900 kr))]) hx hb dL_copied_6 rfl hl (by decide) rfl (fun ls hl => ?_)
  refine r_loop (ι := Nat) (fun (n9 : Nat) => [(2, .int (nI n9)), (1, .ref (up2 L 900 kn s.heap.size 900 kn)), (0, .ref (up2 L 900 kn s.heap.size 900 kr))]) (fun (n9 : Nat) => cpj kr kn n9 σ) (fun n9 => 48 - n9) (fun n9 => n9 ≤ 48) 0 (Nat.zero_le _) hG hS hl ?_
  intro n9 hk ih H locs ls hG hS hl
  refine lv_iload_n hx hb dL_copied_7 rfl (lv_at hl 0 rfl) ?_
  refine lv_bipush (v := nI 48) hx hb dL_copied_8 (by decide) ?_
  refine r_icmp_geN (tgt := 25) hx hb dL_copied_10 (by decide) (by omega) (by decide) (fun c_10 => ?_) (fun c_10 => ?_)
  · obtain rfl : n9 = 48 := by omega
    refine lv_aload_n hx hb dL_copied_25 rfl (lv_at hl 1 rfl) ?_
    rw [eL]
    exact W.aret hx hb B.returns (Or.inr ⟨_, rfl⟩) (Or.inr ⟨_, rfl⟩) (fun t ht hW => ⟨⟨(), _, rfl, trivial, rfl, by show PW D cI cA cO _ _ _ _ t.heap; rw [ht]; exact hG⟩, hS.F ht⟩) hS.2.2 dL_copied_26 B.notSynchronized
  refine lv_aload_n hx hb dL_copied_13 rfl (lv_at hl 1 rfl) ?_
  refine lv_iload_n hx hb dL_copied_14 rfl (lv_at hl 0 rfl) ?_
  refine lv_aload_n hx hb dL_copied_15 rfl (lv_at hl 2 rfl) ?_
  refine lv_iload_n hx hb dL_copied_16 rfl (lv_at hl 0 rfl) ?_
  have e9 : (cpj kr kn n9 σ).2.2.1 900 kr n9 = σ.2.2.1 900 kr n9 := by
    show up2 σ.2.2.1 900 kn _ 900 kr n9 = _
    rw [up2_n hne]
  refine al_900 X hK hG (Or.inl hr) (i := n9) (x := σ.2.2.1 900 kr n9) (by omega) e9 dL_copied_17 ?_
  refine as_900 X hK hG hS hA (Or.inr ⟨rfl, rfl⟩) (i := n9) (by omega) dL_copied_18 (fun H locs hG hS => ?_)
  rw [cpj_s] at hG
  refine r_iincN (b := 1) (lv' := [(2, .int (nI (n9 + 1))), (1, .ref (up2 L 900 kn s.heap.size 900 kn)), (0, .ref (up2 L 900 kn s.heap.size 900 kr))]) hx hb dL_copied_19 hl (k := 0) rfl (by decide) (by decide) rfl (fun ls hl => ?_)
  refine lv_goto (tgt := 7) hx hb dL_copied_22 (by decide) ?_
  exact ih (n9 + 1) (by show 48 - (n9 + 1) < 48 - n9; omega) (by show n9 + 1 ≤ 48; omega) H locs ls hG hS hl
set_option maxRecDepth 100000 in
set_option maxHeartbeats 4000000 in
theorem c_L_kept (l : Launch) (F kr kn N : Nat) (hF : FA F 8) (hF9 : 900 ≤ F ∧ F < 906) (hN : σ.2.2.1 F kr 0 = N) (hN4 : N ≤ 40) (hLD : LD dom) (hr : dom F kr) (hn : ¬ dom F kn) (sz : Nat) : Met l yL_kept (wM yL_kept cL_kept 3 (some (FieldType.array FieldType.int))) { frames := 0, cells := 1, slots := 40, locals := 0 } (RP D cI cZ cO dom L σ ow sz [.ref (L F kr)]) (CPQ D cI cZ cO dom L ow sz F kn (kpi F kr kn N σ)) 1 40 (AA ow sz) := by
  refine Met.ofW (cc := cL_kept) (maxL := 3) (ret := some (FieldType.array FieldType.int)) rfl rfl ?_
  intro p e s m args below meth c s₁ B hml hv
  obtain ⟨rfl, hsz, hK, hG⟩ := hv
  subst hsz
  rw [lg_entry_eq]
  have hl := lv_entry [.ref (L F kr)] (n := 3) (Nat.le_of_ble_eq_true rfl)
  generalize (lg_sl [Value.ref (L F kr)] ++ List.replicate (3 - (lg_sl [Value.ref (L F kr)]).length) Slot.unset).toArray = ls at hl ⊢
  have X : CallFix p m c cL_kept 3 s _ TB RL := ⟨B.exec, B.bytes, hml, findClass_of_methodNamed B.named, wm_hts (atoms_spec (ws := wM yL_kept cL_kept 3 (some (FieldType.array FieldType.int))) B.pre)⟩
  have hx := X.1
  have hb := X.2.1
  have hne : ¬ (F = F ∧ kr = kn) := fun z => hn (by rw [← z.2]; exact hr)
  have hl : lv_has ls 3 [(0, .ref (up2 L F kn s.heap.size F kr))] := by rw [up2_n hne]; exact hl
  refine lv_bipush (v := nI 40) hx hb dL_kept_0 (by decide) ?_
  refine va_newaK (atype := .int) X.1 X.2.1 (X.2.2.2.2 _ tw_1_116) rfl dL_kept_2 rfl (by decide +kernel) (N := 40) (by decide +kernel) (by decide) (by show 0 + 1 ≤ 1; omega) (by show 0 + 40 ≤ 40; omega) rfl (fun H1 cA e1 z1 o1 hAr hNm => ?_)
  have hcJ : cA = cI := Option.some.inj (hNm.symm.trans (hK.2 0 (cI, .int) rfl).2)
  subst hcJ
  have hG : PW D cA cZ cO (dA dom F kn) (up2 L F kn s.heap.size) (kpi F kr kn 0 σ) (fun q => ow q ∨ q = s.heap.size) H1 := hG.new hLD hF9 hn rfl (by
    have e : (kpi F kr kn 0 σ).2.2.2 F kn = fun _ => (0 : Int32) := by
      show up2 σ.2.2.2 F kn _ F kn = _
      rw [up2_s]
      rfl
    have e2 : (kpi F kr kn 0 σ).2.2.1 F kn 0 = 40 := by
      show up2 σ.2.2.1 F kn _ F kn 0 = _
      rw [up2_s]
    rw [ent_8 hF.1 hF.2.1 hF.2.2, e, e2]
    show H1[s.heap.size]? = some (vp_cell _ _)
    exact e1) o1 (fun F' k' hd => up2_n (fun z => hn (by rw [← z.1, ← z.2]; exact hd))) (fun F' k' hd => up2_n (fun z => hn (by rw [← z.1, ← z.2]; exact hd)))
  have hS : va_S (AA ow s.heap.size) s.heap H1 [] := ⟨by rw [z1]; omega, fun q h1 h2 => o1 q h1, fun q h => absurd h List.not_mem_nil⟩
  have hA : ∀ q, (ow q ∨ q = s.heap.size) → AA ow s.heap.size q := fun q h => h.elim Or.inl (fun z => Or.inr (by omega))
  refine W.eq (g2 := F0 m 4 ls [.ref s.heap.size]) rfl ?_
  refine lv_astore_n (lv' := [(1, .ref s.heap.size), (0, .ref (up2 L F kn s.heap.size F kr))]) hx hb dL_kept_4 rfl hl (by decide) rfl (fun ls hl => ?_)
  have eL : up2 L F kn s.heap.size F kn = s.heap.size := up2_s
  have hl : lv_has ls 3 [(1, .ref (up2 L F kn s.heap.size F kn)), (0, .ref (up2 L F kn s.heap.size F kr))] := by rw [eL]; exact hl
  refine lv_iconst (v := nI 0) hx hb dL_kept_5 (by decide) ?_
  refine lv_istore_n (lv' := [(2, .int (nI 0)), (1, .ref (up2 L F kn s.heap.size F kn)), (0, .ref (up2 L F kn s.heap.size F kr))]) hx hb dL_kept_6 rfl hl (by decide) rfl (fun ls hl => ?_)
  refine r_loop (ι := Nat) (fun (n9 : Nat) => [(2, .int (nI n9)), (1, .ref (up2 L F kn s.heap.size F kn)), (0, .ref (up2 L F kn s.heap.size F kr))]) (fun (n9 : Nat) => kpi F kr kn n9 σ) (fun n9 => N - n9) (fun n9 => n9 ≤ N) 0 (Nat.zero_le _) hG hS hl ?_
  intro n9 hk ih H locs ls hG hS hl
  have eN : (kpi F kr kn n9 σ).2.2.1 F kr 0 = N := by
    show up2 σ.2.2.1 F kn _ F kr 0 = _
    rw [up2_n hne]
    exact hN
  have e40 : (kpi F kr kn n9 σ).2.2.1 F kn 0 = 40 := by
    show up2 σ.2.2.1 F kn _ F kn 0 = _
    rw [up2_s]
  refine lv_iload_n hx hb dL_kept_7 rfl (lv_at hl 0 rfl) ?_
  refine lv_aload_n hx hb dL_kept_8 rfl (lv_at hl 2 rfl) ?_
  refine pw_alen8 X hK hG F hF (Or.inl hr) eN dL_kept_9 ?_
  refine r_icmp_geN (tgt := 25) hx hb dL_kept_10 (by decide) (by omega) (by omega) (fun c_10 => ?_) (fun c_10 => ?_)
  · obtain rfl : n9 = N := by omega
    refine lv_aload_n hx hb dL_kept_25 rfl (lv_at hl 1 rfl) ?_
    rw [eL]
    exact W.aret hx hb B.returns (Or.inr ⟨_, rfl⟩) (Or.inr ⟨_, rfl⟩) (fun t ht hW => ⟨⟨(), _, rfl, trivial, rfl, by show PW D cA cZ cO _ _ _ _ t.heap; rw [ht]; exact hG⟩, hS.F ht⟩) hS.2.2 dL_kept_26 B.notSynchronized
  refine lv_aload_n hx hb dL_kept_13 rfl (lv_at hl 1 rfl) ?_
  refine lv_iload_n hx hb dL_kept_14 rfl (lv_at hl 0 rfl) ?_
  refine lv_aload_n hx hb dL_kept_15 rfl (lv_at hl 2 rfl) ?_
  refine lv_iload_n hx hb dL_kept_16 rfl (lv_at hl 0 rfl) ?_
  have e9 : (kpi F kr kn n9 σ).2.2.2 F kr n9 = σ.2.2.2 F kr n9 := by
    show up2 σ.2.2.2 F kn _ F kr n9 = _
    rw [up2_n hne]
  refine pw_ald8 X hK hG F hF (Or.inl hr) (i := n9) (x := σ.2.2.2 F kr n9) eN (by omega) (by omega) e9 dL_kept_17 ?_
  refine pw_ast8 X hK hG hS hA F hF (Or.inr ⟨rfl, rfl⟩) (i := n9) e40 (by omega) (by decide) dL_kept_18 (fun H locs hG hS => ?_)
  rw [kpi_s] at hG
  refine r_iincN (b := 1) (lv' := [(2, .int (nI (n9 + 1))), (1, .ref (up2 L F kn s.heap.size F kn)), (0, .ref (up2 L F kn s.heap.size F kr))]) hx hb dL_kept_19 hl (k := 0) rfl (by decide) (by decide) rfl (fun ls hl => ?_)
  refine lv_goto (tgt := 7) hx hb dL_kept_22 (by decide) ?_
  exact ih (n9 + 1) (by show N - (n9 + 1) < N - n9; omega) (by show n9 + 1 ≤ N; omega) H locs ls hG hS hl
variable {p : Program} {l : Launch} {e : Env} {R : Room} {s : State} {m : MethodId} {args : Array Value} {below : List Frame} {meth : Method} {c : Code} {H H0 : Heap} {locs : List Loc} {cells slots : Nat} {Q : State → Prop}
variable {cc : ByteArray} {pc nL : Nat} {ls : Array Slot} {rest st0 : List Value} {A : Nat → Prop}
theorem cp_call (X : CallFix p m c cc nL s args TB RL) (hK : KK D cI cZ cO s) (hG : PW D cI cZ cO dom L σ ow H) (hS : va_S A H0 H locs) (hA : ∀ q, AA ow H0.size q → A q) {kr : Nat} (kn : Nat) (hLD : LD dom) (hr : dom 900 kr) (hn : ¬ dom 900 kn) (hls : ls.size = nL) (hrm : (rest.map fun v => v.category).sum ≤ 8) (hR : 1 ≤ R.frames ∧ 22 ≤ R.locals) (hc : cells + 1 ≤ R.cells ∧ slots + 48 ≤ R.slots) (d : decode cc pc = .ok (.invokestatic 37, 3))
    (kk : ∀ (H1 : Heap) (locs1 : List Loc), PW D cI cZ cO (dA dom 900 kn) (up2 L 900 kn H.size) (cpj kr kn 48 σ) (fun q => ow q ∨ q = H.size) H1 → PW D cI cZ cO dom L σ ow H1 → va_S A H0 H1 locs1 → W p l e R s m args below meth c H1 locs1 (cells + 1) (slots + 48) Q (F0 m (pc + 3) ls (.ref H.size :: rest))) : W p l e R s m args below meth c H locs cells slots Q (F0 m pc ls (.ref (L 900 kr) :: rest)) := by
  refine va_callr (va_runS (As := [.ref (L 900 kr)]) (rest := rest) X (c_L_copied (D := D) (cI := cI) (cZ := cZ) (cO := cO) (dom := dom) (L := L) (σ := σ) (ow := ow) l kr kn hLD hr hn H.size) (ys_cw X.2.2.2.2 ysL_copied ml_L_37 rfl rfl ⟨by show 0 + 1 ≤ _; omega, by show 8 + (3 + 11) + 0 ≤ _; omega⟩) ⟨rp_blind, rp_pre hK hG rfl⟩ rfl rfl hls rfl (lv_room hrm) d hc) hS (fun q _ h => hA q (aa_le hS.1 q h)) (fun q h => hA q (aa_le hS.1 q h)) ?_
  intro u ra t H1 locs1 ht _ _ hB hz hk hS1
  obtain ⟨rfl, hB⟩ := hB
  rw [ht] at hB
  have hne : ∀ F k, dom F k → ¬ (F = 900 ∧ k = kn) := fun F k hd z => hn (by rw [← z.1, ← z.2]; exact hd)
  refine kk H1 locs1 hB ?_ hS1
  exact hB.rel hLD (fun F k hd => Or.inl hd) (fun F k hd => (up2_n (hne F k hd)).symm) (fun F k hd => (show (cpj kr kn 48 σ).2.2.1 F k = σ.2.2.1 F k from up2_n (hne F k hd)).symm) (fun F k hd => rfl) hG.2.2
theorem kp_call (X : CallFix p m c cc nL s args TB RL) (hK : KK D cI cZ cO s) (hG : PW D cI cZ cO dom L σ ow H) (hS : va_S A H0 H locs) (hA : ∀ q, AA ow H0.size q → A q) (F kr kn N : Nat) (hF : FA F 8) (hF9 : 900 ≤ F ∧ F < 906) (hN : σ.2.2.1 F kr 0 = N) (hN4 : N ≤ 40) (hLD : LD dom) (hr : dom F kr) (hn : ¬ dom F kn) (hls : ls.size = nL) (hrm : (rest.map fun v => v.category).sum ≤ 8) (hR : 1 ≤ R.frames ∧ 22 ≤ R.locals) (hc : cells + 1 ≤ R.cells ∧ slots + 40 ≤ R.slots) (d : decode cc pc = .ok (.invokestatic 41, 3))
    (kk : ∀ (H1 : Heap) (locs1 : List Loc), PW D cI cZ cO (dA dom F kn) (up2 L F kn H.size) (kpi F kr kn N σ) (fun q => ow q ∨ q = H.size) H1 → va_S A H0 H1 locs1 → W p l e R s m args below meth c H1 locs1 (cells + 1) (slots + 40) Q (F0 m (pc + 3) ls (.ref H.size :: rest))) : W p l e R s m args below meth c H locs cells slots Q (F0 m pc ls (.ref (L F kr) :: rest)) := by
  refine va_callr (va_runS (As := [.ref (L F kr)]) (rest := rest) X (c_L_kept (D := D) (cI := cI) (cZ := cZ) (cO := cO) (dom := dom) (L := L) (σ := σ) (ow := ow) l F kr kn N hF hF9 hN hN4 hLD hr hn H.size) (ys_cw X.2.2.2.2 ysL_kept ml_L_41 rfl rfl ⟨by show 0 + 1 ≤ _; omega, by show 8 + (3 + 11) + 0 ≤ _; omega⟩) ⟨rp_blind, rp_pre hK hG rfl⟩ rfl rfl hls rfl (lv_room hrm) d hc) hS (fun q _ h => hA q (aa_le hS.1 q h)) (fun q h => hA q (aa_le hS.1 q h)) ?_
  intro u ra t H1 locs1 ht _ _ hB hz hk hS1
  obtain ⟨rfl, hB⟩ := hB
  rw [ht] at hB
  exact kk H1 locs1 hB hS1
end CPs
