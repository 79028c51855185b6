/-- a loop whose rounds may change the lists' layout and take memory -/
theorem r_loopX {D : va_G} {cI cZ cO : ClassId} {t0 : Nat} {L0 : Lay} {σ0 : St} {A : Nat → Prop} {p : Program} {l : Launch} {e : Env} {R : Room} {s : State} {m : MethodId} {args : Array Value} {below : List Frame} {meth : Method} {c : Code} {Q : State → Prop} {pc nL : Nat} {ι : Type} (lvf : ι → Lay → List (Nat × Value)) (sgf : ι → St) (c9 s9 μ : ι → Nat) (Inv : ι → Prop)
    (step : ∀ i, Inv i → (∀ i', μ i' < μ i → Inv i' → ∀ (L : Lay) (ow : Nat → Prop) (H : Heap) (locs : List Loc) (ls : Array Slot), CW D cI cZ cO t0 L (sgf i') ow H → (∀ q, ow q → A q) → (∀ F k, cdom σ0 F k → F ≠ 1001 → L F k = L0 F k) → va_S A s.heap H locs → lv_has ls nL (lvf i' L) → W p l e R s m args below meth c H locs (c9 i') (s9 i') Q (F0 m pc ls [])) →
      ∀ (L : Lay) (ow : Nat → Prop) (H : Heap) (locs : List Loc) (ls : Array Slot), CW D cI cZ cO t0 L (sgf i) ow H → (∀ q, ow q → A q) → (∀ F k, cdom σ0 F k → F ≠ 1001 → L F k = L0 F k) → va_S A s.heap H locs → lv_has ls nL (lvf i L) → W p l e R s m args below meth c H locs (c9 i) (s9 i) Q (F0 m pc ls []))
    (i0 : ι) (hI : Inv i0) {L : Lay} {ow : Nat → Prop} {H : Heap} {locs : List Loc} {ls : Array Slot} {cells slots : Nat} (hC : CW D cI cZ cO t0 L (sgf i0) ow H) (hO : ∀ q, ow q → A q) (hLx : ∀ F k, cdom σ0 F k → F ≠ 1001 → L F k = L0 F k) (hS : va_S A s.heap H locs) (hl : lv_has ls nL (lvf i0 L)) (hc : cells ≤ c9 i0) (hs : slots ≤ s9 i0) : W p l e R s m args below meth c H locs cells slots Q (F0 m pc ls []) := by
  have key : ∀ n i, μ i < n → Inv i → ∀ (L : Lay) (ow : Nat → Prop) (H : Heap) (locs : List Loc) (ls : Array Slot), CW D cI cZ cO t0 L (sgf i) ow H → (∀ q, ow q → A q) → (∀ F k, cdom σ0 F k → F ≠ 1001 → L F k = L0 F k) → va_S A s.heap H locs → lv_has ls nL (lvf i L) → W p l e R s m args below meth c H locs (c9 i) (s9 i) Q (F0 m pc ls []) := by
    intro n
    induction n with
    | zero => exact fun i h => absurd h (Nat.not_lt_zero _)
    | succ n ih => exact fun i h hi => step i hi (fun i' h' hi' => ih i' (by omega) hi')
  exact W.widen hc hs (key _ i0 (Nat.lt_succ_self _) hI L ow H locs ls hC hO hLx hS hl)
