theorem cd_sub {σ : St} {l : List Nat} (h : ∀ F ∈ l, F ∈ [899, 806, 807, 808, 799, 702, 703, 699, 600, 601]) : ∀ F ∈ l, cdom σ F 0 := fun F hF => cd_fix (h F hF)
/-- an object's labels -/
theorem cd_objs {σ : St} {l : List Nat} {C k : Nat} (h : l.all (fun F => decide (F < 600) && (decide (F % 100 = 99) || (decide (2 ≤ fty F) && decide (fty F ≤ 4))) && decide (F / 100 = C)) = true) (hk : k < σ.1 1002 (cj C)) : ∀ F ∈ l, cdom σ F k := fun F hF => by
  have h1 := List.all_eq_true.mp h F hF
  simp only [Bool.and_eq_true, Bool.or_eq_true, decide_eq_true_eq] at h1
  exact cd_obj h1.1.1 h1.1.2 (by rw [h1.2]; exact hk)
theorem cj_ne (C : Nat) : cj C ≠ 2 ∧ cj C ≠ 7 := by
  unfold cj
  split <;> exact ⟨by decide, by decide⟩
theorem cdom_eq2 {σ σ' : St} (h2 : ∀ j, j ≠ 2 → j ≠ 7 → σ'.1 1002 j = σ.1 1002 j) (h3 : ∀ j, σ'.1 1003 j = σ.1 1003 j) : cdom σ' = cdom σ := funext fun F => funext fun k => by
  unfold cdom
  rw [h2 _ (cj_ne _).1 (cj_ne _).2, h3]
section XR
variable {D : va_G} {cI cZ cO : ClassId} {L L' : Lay} {σ σ' : St} {ow A : Nat → Prop} {H H0 : Heap} {t0 mi : Nat}
variable {p : Program} {l : Launch} {e : Env} {R : Room} {s : State} {m : MethodId} {args : Array Value} {below : List Frame} {meth : Method} {c : Code} {locs : List Loc} {cells slots : Nat} {Q : State → Prop}
variable {cc : ByteArray} {pc nL : Nat} {ls : Array Slot} {rest st0 : List Value} {own : String}
/-- the list's size -/
theorem x_size (X : CallFix p m c cc nL s args TB own) (hK : KK D cI cZ cO s) {dom : Nat → Nat → Prop} (hG : PW D cI cZ cO dom L σ ow H) (hS : va_S A H0 H locs) (hA : ∀ q, AA ow H0.size q → A q) {j idx : Nat} (hd : dom 1099 j) (hl : Cond.methodLink own idx yJx4a65c_size_8abf5 ∈ TB) (hls : ls.size = nL) (hrm : (rest.map fun v => v.category).sum ≤ 8) (hR : 1 ≤ R.frames ∧ 20 ≤ R.locals) (hc : cells ≤ R.cells ∧ slots ≤ R.slots) (d : decode cc pc = .ok (.invokevirtual idx, 3))
    (kk : ∀ (H1 : Heap) (locs1 : List Loc), PW D cI cZ cO dom L σ ow H1 → va_S A H0 H1 locs1 → W p l e R s m args below meth c H1 locs1 cells slots Q (F0 m (pc + 3) ls (.int (nI (σ.1 1002 j)) :: rest))) : W p l e R s m args below meth c H locs cells slots Q (F0 m pc ls (.ref (L 1099 j) :: rest)) :=
  rm_callVg X hK hG hS hA yvJx4a65c_size_8abf5 hl kJx4a65c rfl hd [] rest (c_Jx4a65c_size_8abf5 l L σ ow j hd) rfl hls rfl hrm hR hc d kk
theorem x_empty (X : CallFix p m c cc nL s args TB own) (hK : KK D cI cZ cO s) {dom : Nat → Nat → Prop} (hG : PW D cI cZ cO dom L σ ow H) (hS : va_S A H0 H locs) (hA : ∀ q, AA ow H0.size q → A q) {j idx : Nat} (hd : dom 1099 j) (h5 : σ.1 1002 j < 100000) (hl : Cond.methodLink own idx yJx4a65c_isEmpty_aae02 ∈ TB) (hls : ls.size = nL) (hrm : (rest.map fun v => v.category).sum ≤ 8) (hR : 1 ≤ R.frames ∧ 20 ≤ R.locals) (hc : cells ≤ R.cells ∧ slots ≤ R.slots) (d : decode cc pc = .ok (.invokevirtual idx, 3))
    (kk : ∀ (H1 : Heap) (locs1 : List Loc), PW D cI cZ cO dom L σ ow H1 → va_S A H0 H1 locs1 → W p l e R s m args below meth c H1 locs1 cells slots Q (F0 m (pc + 3) ls (.int (b2i (σ.1 1002 j = 0)) :: rest))) : W p l e R s m args below meth c H locs cells slots Q (F0 m pc ls (.ref (L 1099 j) :: rest)) :=
  rm_callVg X hK hG hS hA yvJx4a65c_isEmpty_aae02 hl kJx4a65c rfl hd [] rest (c_Jx4a65c_isEmpty_aae02 l L σ ow j hd h5) rfl hls rfl hrm hR hc d kk
/-- an element -/
theorem x_get (X : CallFix p m c cc nL s args TB own) (hK : KK D cI cZ cO s) {dom : Nat → Nat → Prop} (hG : PW D cI cZ cO dom L σ ow H) (hS : va_S A H0 H locs) (hA : ∀ q, AA ow H0.size q → A q) {j i idx : Nat} (hLk : LOK dom L σ t0 j) (hi : i < σ.1 1002 j) {O : Nat} (hO : fel j = O) (hl : Cond.methodLink own idx yJx4a65c_get_915e3 ∈ TB) (hls : ls.size = nL) (hrm : (rest.map fun v => v.category).sum ≤ 8) (hR : 4 ≤ R.frames ∧ 121 ≤ R.locals) (hc : cells ≤ R.cells ∧ slots ≤ R.slots) (d : decode cc pc = .ok (.invokevirtual idx, 3))
    (kk : ∀ (H1 : Heap) (locs1 : List Loc), PW D cI cZ cO dom L σ ow H1 → va_S A H0 H1 locs1 → W p l e R s m args below meth c H1 locs1 cells slots Q (F0 m (pc + 3) ls (.ref (L O (σ.2.2.1 1001 j i)) :: rest))) : W p l e R s m args below meth c H locs cells slots Q (F0 m pc ls (.int (nI i) :: .ref (L 1099 j) :: rest)) := by
  subst hO
  obtain ⟨hd, hnc, h5, hcs⟩ := hLk
  have hd1 : dom 1001 j := hcs.elim (fun z => absurd hi (by omega)) (fun z => z.2)
  exact rr_callVg X hK hG hS hA yvJx4a65c_get_915e3 hl kJx4a65c rfl hd [.int (nI i)] rest (c_Jx4a65c_get_915e3 l L σ ow j i hd hd1 hi hnc (by omega)) rfl hls rfl hrm hR hc d kk
end XR
