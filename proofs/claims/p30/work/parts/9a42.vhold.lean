/-! what holds() makes -/
set_option maxHeartbeats 400000 in
theorem dfs_8 : ∀ j, j < (flds 8).length → defaultValue (tyX8 j) = vp_V (dfs 8) j := fun j hj => by
  have hj : j < 13 := hj
  match j, hj with
  | 0, _ => rfl
  | 1, _ => rfl
  | 2, _ => rfl
  | 3, _ => rfl
  | 4, _ => rfl
  | 5, _ => rfl
  | 6, _ => rfl
  | 7, _ => rfl
  | 8, _ => rfl
  | 9, _ => rfl
  | 10, _ => rfl
  | 11, _ => rfl
  | 12, _ => rfl
/-- the law's rows, new -/
def σ9 : St := (fun _ _ => 0, fun _ _ => 0, fun F _ _ => if F = 902 then 36 else if F = 903 then 37 else if F = 905 then 11 else 0, fun _ _ _ => 0)
set_option maxHeartbeats 400000 in
theorem σ9_N : JN σ9 := ⟨rfl, rfl, rfl⟩
set_option maxHeartbeats 400000 in
theorem σ9_1 (p : Nat) : σ9.2.2.1 900 p = fun _ => 0 := funext fun _ => rfl
set_option maxHeartbeats 400000 in
theorem σ9_2 (F : Nat) : σ9.2.2.2 F 0 = fun _ => 0 := rfl
def VT9 (_ : Heap) : Prop := True
section XNs
variable {D : va_G} {cI cZ cO : ClassId} {t0 mi z0 x9 : Nat} {L : Lay} {κ ρ : St} {H : Heap} {dom : Nat → Nat → Prop} {im : Nat → Prop}
set_option maxHeartbeats 400000 in
theorem VX.start {Lc : Lay} {ow : Nat → Prop} (hC : CW D cI cZ cO t0 Lc κ ow H) (hLa : Lc 899 0 = x9) (ho : ∀ q, ow q → z0 ≤ q) (hz : z0 ≤ H.size) : VX D cI cZ cO t0 z0 x9 κ (fun _ _ => False) (fun _ _ => 0) ρ (fun _ => False) H := ⟨Lc, ow, hLa, hC, fun q hq => ⟨ho q hq, id⟩, ⟨fun _ _ z => z.elim, fun _ _ _ _ z => z.elim, fun _ _ z => z.elim⟩, fun _ z => z.elim, hz⟩
set_option maxHeartbeats 400000 in
theorem VQ.mono {K K' : Nat} (h : VQ D cI cZ cO t0 z0 x9 L K H) (hk : K ≤ K') : VQ D cI cZ cO t0 z0 x9 L K' H := by
  obtain ⟨κ, σ, τ, hW, hR, hJ⟩ := h
  exact ⟨κ, σ, τ, hW, hR, hJ.mono hk⟩
variable {p : Program} {l : Launch} {e : Env} {R : Room} {s : State} {m : MethodId} {args : Array Value} {below : List Frame} {meth : Method} {c : Code} {locs : List Loc} {cells slots : Nat} {Q : State → Prop}
variable {cc : ByteArray} {pc nL : Nat} {ls : Array Slot} {rest st0 : List Value} {own : String}
set_option maxHeartbeats 400000 in
theorem x_newI (X : CallFix p m c cc nL s args TB own) (hK : KK D cI cZ cO s) (hV : VX D cI cZ cO t0 z0 x9 κ dom L ρ im H) (hS : va_S (vA z0) s.heap H locs) (F k N : Nat) (hLD : LD dom) (hF : 900 ≤ F ∧ F < 906) (hn : ¬ dom F k) (hent : ∀ (c9 : ClassId) (L' : Lay), ent c9 cZ cO L' ρ F k = .inl (c9, N, .inl (fun _ => 0))) (hN : N < 100) (hc : cells + 1 ≤ R.cells ∧ slots + N ≤ R.slots) (d : decode cc pc = .ok (.newarray .int, 2))
    (kk : ∀ (a : Nat) (H1 : Heap), VX D cI cZ cO t0 z0 x9 κ (dA dom F k) (up2 L F k a) ρ (fun q => im q ∨ q = a) H1 → va_S (vA z0) s.heap H1 locs → W p l e R s m args below meth c H1 locs (cells + 1) (slots + N) Q (F0 m (pc + 2) ls (.ref a :: rest))) : W p l e R s m args below meth c H locs cells slots Q (F0 m pc ls (.int (nI N) :: rest)) := by
  refine va_newaK (atype := .int) X.1 X.2.1 (X.2.2.2.2 _ tw_1_116) rfl d rfl (nI_pos (by omega)) (N := N) (nI_clamp (by omega)) (by show N * 4 ≤ _; omega) hc.1 hc.2 rfl (fun H1 cA e1 z1 o1 hAr hNm => ?_)
  have hcI : cA = cI := Option.some.inj (hNm.symm.trans (hK.2 0 (cI, .int) rfl).2)
  subst hcI
  have hG := hV.choose_spec.choose_spec.2.2.2.1.new (σ' := ρ) hLD hF hn rfl (by rw [hent]; show H1[H.size]? = some (vp_cell _ _); exact e1) o1 (fun _ _ _ => rfl) (fun _ _ _ => rfl)
  refine W.eq (g2 := F0 m (pc + 2) ls (.ref H.size :: rest)) rfl ?_
  exact kk H.size H1 (hV.new hG (by rw [z1]; omega) (fun q h _ => o1 q h)) ⟨by rw [z1]; have := hS.1; omega, fun q h1 h2 => (o1 q (Nat.lt_of_lt_of_le h1 hS.1)).trans (hS.2.1 q h1 h2), hS.2.2⟩
set_option maxHeartbeats 400000 in
theorem x_newJ (X : CallFix p m c cc nL s args TB own) (hK : KK D cI cZ cO s) (hV : VX D cI cZ cO t0 z0 x9 κ dom L ρ im H) (hS : va_S (vA z0) s.heap H locs) (F k N : Nat) (hLD : LD dom) (hF : 900 ≤ F ∧ F < 906) (hn : ¬ dom F k) (hent : ∀ (c9 : ClassId) (L' : Lay), ent cI c9 cO L' ρ F k = .inl (c9, N, .inr (.inl (fun _ => 0)))) (hN : N < 100) (hc : cells + 1 ≤ R.cells ∧ slots + N ≤ R.slots) (d : decode cc pc = .ok (.newarray .long, 2))
    (kk : ∀ (a : Nat) (H1 : Heap), VX D cI cZ cO t0 z0 x9 κ (dA dom F k) (up2 L F k a) ρ (fun q => im q ∨ q = a) H1 → va_S (vA z0) s.heap H1 locs → W p l e R s m args below meth c H1 locs (cells + 1) (slots + N) Q (F0 m (pc + 2) ls (.ref a :: rest))) : W p l e R s m args below meth c H locs cells slots Q (F0 m pc ls (.int (nI N) :: rest)) := by
  refine va_newaK (atype := .long) X.1 X.2.1 (X.2.2.2.2 _ tw_2_95) rfl d rfl (nI_pos (by omega)) (N := N) (nI_clamp (by omega)) (by show N * 8 ≤ _; omega) hc.1 hc.2 rfl (fun H1 cA e1 z1 o1 hAr hNm => ?_)
  have hcI : cA = cZ := Option.some.inj (hNm.symm.trans (hK.2 1 (cZ, .long) rfl).2)
  subst hcI
  have hG := hV.choose_spec.choose_spec.2.2.2.1.new (σ' := ρ) hLD hF hn rfl (by rw [hent]; show H1[H.size]? = some (vp_cell _ _); exact e1) o1 (fun _ _ _ => rfl) (fun _ _ _ => rfl)
  refine W.eq (g2 := F0 m (pc + 2) ls (.ref H.size :: rest)) rfl ?_
  exact kk H.size H1 (hV.new hG (by rw [z1]; omega) (fun q h _ => o1 q h)) ⟨by rw [z1]; have := hS.1; omega, fun q h1 h2 => (o1 q (Nat.lt_of_lt_of_le h1 hS.1)).trans (hS.2.1 q h1 h2), hS.2.2⟩
end XNs
set_option maxHeartbeats 400000 in
theorem ent9_0 (cI c9 cO : ClassId) (L' : Lay) (k : Nat) : ent cI c9 cO L' σ9 900 k = .inl (c9, 48, .inr (.inl (fun _ => 0))) := by
  rw [ent_4 fa_900.1 fa_900.2.1 fa_900.2.2]
  rfl
set_option maxHeartbeats 400000 in
theorem ent9_1 (c9 cZ cO : ClassId) (L' : Lay) : ent c9 cZ cO L' σ9 901 0 = .inl (c9, 39, .inl (fun _ => 0)) := by
  rw [ent_3 fa_901.1 fa_901.2.1 fa_901.2.2]
  rfl
set_option maxHeartbeats 400000 in
theorem ent9_2 (c9 cZ cO : ClassId) (L' : Lay) : ent c9 cZ cO L' σ9 902 0 = .inl (c9, 36, .inl (fun _ => 0)) := by
  rw [ent_8 fa_902.1 fa_902.2.1 fa_902.2.2]
  rfl
set_option maxHeartbeats 400000 in
theorem ent9_3 (c9 cZ cO : ClassId) (L' : Lay) : ent c9 cZ cO L' σ9 903 0 = .inl (c9, 37, .inl (fun _ => 0)) := by
  rw [ent_8 fa_903.1 fa_903.2.1 fa_903.2.2]
  rfl
set_option maxHeartbeats 400000 in
theorem ent9_4 (c9 cZ cO : ClassId) (L' : Lay) : ent c9 cZ cO L' σ9 904 0 = .inl (c9, 20, .inl (fun _ => 0)) := by
  rw [ent_3 fa_904.1 fa_904.2.1 fa_904.2.2]
  rfl
set_option maxHeartbeats 400000 in
theorem ent9_5 (c9 cZ cO : ClassId) (L' : Lay) : ent c9 cZ cO L' σ9 905 0 = .inl (c9, 11, .inl (fun _ => 0)) := by
  rw [ent_8 fa_905.1 fa_905.2.1 fa_905.2.2]
  rfl
set_option maxHeartbeats 400000 in
theorem LD0 : LD (fun _ _ => False) := fun _ _ z => z.elim
/-- the rows of the law, one behind the other -/
def dm7 : Nat → Nat → Prop := dA (dA (dA (dA (dA (dA (dA (fun _ _ => False) 900 0) 900 1) 901 0) 902 0) 903 0) 904 0) 905 0
set_option maxHeartbeats 400000 in
theorem vd_7 (F k : Nat) (h : vdom F k) : dm7 F k := by
  rcases h with ⟨rfl, h⟩ | ⟨h1, h2, rfl⟩
  · rcases (by omega : k = 0 ∨ k = 1) with rfl | rfl
    · exact Or.inl (Or.inl (Or.inl (Or.inl (Or.inl (Or.inl (Or.inr ⟨rfl, rfl⟩))))))
    · exact Or.inl (Or.inl (Or.inl (Or.inl (Or.inl (Or.inr ⟨rfl, rfl⟩)))))
  · rcases (by omega : F = 901 ∨ F = 902 ∨ F = 903 ∨ F = 904 ∨ F = 905) with rfl | rfl | rfl | rfl | rfl
    · exact Or.inl (Or.inl (Or.inl (Or.inl (Or.inr ⟨rfl, rfl⟩))))
    · exact Or.inl (Or.inl (Or.inl (Or.inr ⟨rfl, rfl⟩)))
    · exact Or.inl (Or.inl (Or.inr ⟨rfl, rfl⟩))
    · exact Or.inl (Or.inr ⟨rfl, rfl⟩)
    · exact Or.inr ⟨rfl, rfl⟩
