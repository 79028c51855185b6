/-! A LIST OF THE WORLD BY LABELS: what its methods change -/
theorem ftg_ne (F : Nat) : (ftg F).1 ≠ 1001 := by
  unfold ftg
  split <;> decide
theorem fel_ne (j : Nat) : fel j ≠ 1001 ∧ fel j ≠ 1099 := by
  unfold fel
  split <;> exact ⟨by decide, by decide⟩
def OffL (j : Nat) (L L' : Lay) (σ σ' : St) : Prop := (∀ F k, ¬ ((F = 1000 ∨ F = 1001 ∨ F = 1002 ∨ F = 1003) ∧ k = j) → σ'.1 F k = σ.1 F k ∧ σ'.2.1 F k = σ.2.1 F k) ∧ (∀ F k, ¬ (F = 1001 ∧ k = j) → σ'.2.2.1 F k = σ.2.2.1 F k ∧ σ'.2.2.2 F k = σ.2.2.2 F k) ∧ ∀ F k, ¬ (F = 1001 ∧ k = j) → L' F k = L F k
theorem ofl_10 (L : Lay) (σ : St) (k : Nat) : ofl L σ 10 k = [.int (σ.2.1 1000 k), .ref (L 1001 k), .int (nI (σ.1 1002 k))] := rfl
theorem ent_10 {cI cZ cO : ClassId} (L : Lay) (σ : St) (k : Nat) : ent cI cZ cO L σ 1099 k = .inr (0, [.int (σ.2.1 1000 k), .ref (L 1001 k), .int (nI (σ.1 1002 k))]) := rfl
theorem ent_off {cI cZ cO : ClassId} {j F k : Nat} {L L' : Lay} {σ σ' : St} (h : OffL j L L' σ σ') (h1 : ¬ (F = 1099 ∧ k = j)) (h2 : ¬ (F = 1001 ∧ k = j)) : ent cI cZ cO L' σ' F k = ent cI cZ cO L σ F k := by
  unfold ent
  by_cases e : F % 100 = 99
  · rw [if_pos e, if_pos e]
    have : ofl L' σ' (F / 100) k = ofl L σ (F / 100) k := by
      unfold ofl
      refine List.map_congr_left (fun f hf => ?_)
      have h3 := List.mem_range.mp hf
      have h4 := flds_le (F / 100)
      have hc : F / 100 ≤ 10 := Nat.le_of_not_lt (fun z => by
        have : flds (F / 100) = [] := by
          unfold flds
          split <;> first | omega | rfl
        rw [this] at h3
        exact absurd h3 (Nat.not_lt_zero _))
      have hn : ¬ ((100 * (F / 100) + f = 1000 ∨ 100 * (F / 100) + f = 1001 ∨ 100 * (F / 100) + f = 1002 ∨ 100 * (F / 100) + f = 1003) ∧ k = j) := fun z => h1 ⟨by omega, z.2⟩
      have hL : L' (100 * (F / 100) + f) k = L (100 * (F / 100) + f) k := h.2.2 _ _ (fun z => hn ⟨Or.inr (Or.inl z.1), z.2⟩)
      have hT : L' (ftg (100 * (F / 100) + f)).1 (ftg (100 * (F / 100) + f)).2 = L (ftg (100 * (F / 100) + f)).1 (ftg (100 * (F / 100) + f)).2 := h.2.2 _ _ (fun z => ftg_ne _ z.1)
      unfold fval
      rw [(h.1 _ _ hn).1, (h.1 _ _ hn).2, hL, hT]
    rw [this]
  · rw [if_neg e, if_neg e]
    by_cases e1 : F = 1001
    · rw [if_pos e1, if_pos e1]
      subst e1
      have hk : ¬ k = j := fun z => h2 ⟨rfl, z⟩
      have e3 := (h.1 1003 k (fun z => hk z.2)).1
      have e2 := (h.1 1002 k (fun z => hk z.2)).1
      have eA := (h.2.1 1001 k (fun z => hk z.2)).1
      have : lrefs L' σ' k = lrefs L σ k := funext fun i => by
        unfold lrefs
        rw [e2, eA, h.2.2 _ _ (fun z => (fel_ne k).1 z.1)]
      rw [e3, this]
    · rw [if_neg e1, if_neg e1]
      have hn : ¬ (F = 1001 ∧ k = j) := h2
      rw [(h.2.1 _ _ hn).1, (h.2.1 _ _ hn).2]
section PL
variable {D : va_G} {cI cZ cO : ClassId} {dom : Nat → Nat → Prop} {L L' : Lay} {σ σ' : St} {ow A : Nat → Prop} {H H1 : Heap} {j : Nat}
theorem pw_list (hG : PW D cI cZ cO dom L σ ow H) (hd : dom 1099 j) (off : OffL j L L' σ σ') (hobj : va_at D vwCl (L 1099 j, ent cI cZ cO L' σ' 1099 j) H1) (harr : va_at D vwCl (L' 1001 j, ent cI cZ cO L' σ' 1001 j) H1) (hq : ∀ q, q < H.size → q ≠ L 1099 j → (dom 1001 j → q ≠ L 1001 j) → H1[q]? = H[q]?) (hb : (dom 1001 j ∧ L' 1001 j = L 1001 j) ∨ H.size ≤ L' 1001 j) {b : Nat} (hbe : L' 1001 j = b) : PW D cI cZ cO (fun F k => dom F k ∨ (F = 1001 ∧ k = j)) L' σ' (fun q => ow q ∨ q = b) H1 := by
  have hLo : ∀ F k, ¬ (F = 1001 ∧ k = j) → L' F k = L F k := off.2.2
  have hapart : ∀ F k, dom F k → ¬ (F = 1001 ∧ k = j) → L F k ≠ L' 1001 j := fun F k hF hn z => by
    rcases hb with ⟨h1, h2⟩ | h
    · rw [h2] at z
      exact hn (hG.2.1 F k 1001 j hF h1 z)
    · exact absurd (hG.1 F k hF).lt (by show ¬ L F k < H.size; rw [z]; exact Nat.not_lt.mpr h)
  refine ⟨fun F k hF => ?_, fun F1 k1 F2 k2 h1 h2 e => ?_, fun F k hF => ?_⟩
  · by_cases e1 : F = 1001 ∧ k = j
    · obtain ⟨rfl, rfl⟩ := e1; exact harr
    · have hF := hF.resolve_right e1
      rw [hLo F k e1]
      by_cases e2 : F = 1099 ∧ k = j
      · obtain ⟨rfl, rfl⟩ := e2; exact hobj
      · rw [ent_off off e2 e1]
        exact (hG.1 F k hF).kept (hq _ (hG.1 F k hF).lt (fun z => e2 (hG.2.1 F k 1099 j hF hd z)) (fun hz z => e1 (hG.2.1 F k 1001 j hF hz z)))
  · by_cases c1 : F1 = 1001 ∧ k1 = j
    · by_cases c2 : F2 = 1001 ∧ k2 = j
      · exact ⟨c1.1.trans c2.1.symm, c1.2.trans c2.2.symm⟩
      · obtain ⟨rfl, rfl⟩ := c1
        rw [hLo F2 k2 c2] at e
        exact absurd e.symm (hapart F2 k2 (h2.resolve_right c2) c2)
    · by_cases c2 : F2 = 1001 ∧ k2 = j
      · obtain ⟨rfl, rfl⟩ := c2
        rw [hLo F1 k1 c1] at e
        exact absurd e (hapart F1 k1 (h1.resolve_right c1) c1)
      · rw [hLo F1 k1 c1, hLo F2 k2 c2] at e
        exact hG.2.1 F1 k1 F2 k2 (h1.resolve_right c1) (h2.resolve_right c2) e
  · by_cases e1 : F = 1001 ∧ k = j
    · obtain ⟨rfl, rfl⟩ := e1; exact Or.inr hbe
    · rw [hLo F k e1]; exact Or.inl (hG.2.2 F k (hF.resolve_right e1))
theorem pw_obj (hG : PW D cI cZ cO dom L σ ow H) (hd : dom 1099 j) (hn : ¬ dom 1001 j) (off : OffL j L L σ σ') (hobj : va_at D vwCl (L 1099 j, ent cI cZ cO L σ' 1099 j) H1) (hq : ∀ q, q < H.size → q ≠ L 1099 j → H1[q]? = H[q]?) : PW D cI cZ cO dom L σ' ow H1 := by
  refine ⟨fun F k hF => ?_, hG.2.1, hG.2.2⟩
  by_cases e2 : F = 1099 ∧ k = j
  · obtain ⟨rfl, rfl⟩ := e2; exact hobj
  · rw [ent_off off e2 (fun z => hn (by rw [← z.1, ← z.2]; exact hF))]
    exact (hG.1 F k hF).kept (hq _ (hG.1 F k hF).lt (fun z => e2 (hG.2.1 F k 1099 j hF hd z)))
theorem pw_same {b : Nat} (h : PW D cI cZ cO (fun F k => dom F k ∨ (F = 1001 ∧ k = j)) L σ (fun q => ow q ∨ q = b) H) (ho : ∀ F k, dom F k → ow (L F k)) : PW D cI cZ cO dom L σ ow H := (h.mono (fun _ _ z => Or.inl z)).ow2 ho
/-- how a list stands: grown, or on the static empty row -/
def LOK (dom : Nat → Nat → Prop) (L : Lay) (σ : St) (t0 j : Nat) : Prop := dom 1099 j ∧ σ.1 1002 j ≤ σ.1 1003 j ∧ σ.1 1003 j < 50000 ∧ ((σ.1 1003 j = 0 ∧ L 1001 j = t0 ∧ ¬ dom 1001 j) ∨ (10 ≤ σ.1 1003 j ∧ dom 1001 j))
def lcap (n cap : Nat) : Nat := if n = cap then (if cap = 0 then 10 else cap + cap / 2) else cap
def ladd (j x : Nat) (σ : St) : St := wA (wI (wN (wN σ 1003 j (lcap (σ.1 1002 j) (σ.1 1003 j))) 1002 j (σ.1 1002 j + 1)) 1000 j (σ.2.1 1000 j + nI 1)) 1001 j (σ.1 1002 j) x
theorem ladd_off (j x b : Nat) (L : Lay) (σ : St) : OffL j L (up2 L 1001 j b) σ (ladd j x σ) := by
  refine ⟨fun F k h => ⟨?_, ?_⟩, fun F k h => ⟨?_, rfl⟩, fun F k h => up2_n h⟩
  · show up2 (up2 σ.1 1003 j _) 1002 j _ F k = _
    rw [up2_n (fun z => h ⟨Or.inr (Or.inr (Or.inl z.1)), z.2⟩), up2_n (fun z => h ⟨Or.inr (Or.inr (Or.inr z.1)), z.2⟩)]
  · show up2 σ.2.1 1000 j _ F k = _
    rw [up2_n (fun z => h ⟨Or.inl z.1, z.2⟩)]
  · show up3 σ.2.2.1 1001 j _ _ F k = _
    rw [up3_n h]
theorem ladd_N (j x : Nat) (σ : St) : (ladd j x σ).1 1002 j = σ.1 1002 j + 1 := by
  show up2 (up2 σ.1 1003 j (lcap (σ.1 1002 j) (σ.1 1003 j))) 1002 j (σ.1 1002 j + 1) 1002 j = _
  exact up2_s
theorem ladd_C (j x : Nat) (σ : St) : (ladd j x σ).1 1003 j = lcap (σ.1 1002 j) (σ.1 1003 j) := by
  show up2 (up2 σ.1 1003 j (lcap (σ.1 1002 j) (σ.1 1003 j))) 1002 j (σ.1 1002 j + 1) 1003 j = _
  rw [up2_n (fun z => absurd z.1 (by decide)), up2_s]
theorem ladd_I (j x : Nat) (σ : St) : (ladd j x σ).2.1 1000 j = σ.2.1 1000 j + nI 1 := by
  show up2 σ.2.1 1000 j (σ.2.1 1000 j + nI 1) 1000 j = _
  exact up2_s
theorem ladd_A (j x : Nat) (σ : St) : (ladd j x σ).2.2.1 1001 j = up1 (σ.2.2.1 1001 j) (σ.1 1002 j) x := by
  show up3 σ.2.2.1 1001 j (σ.1 1002 j) x 1001 j = _
  exact up3_s
theorem ladd_refs {j x b : Nat} {L : Lay} {σ : St} {g : Nat → Option Nat} (hg : ∀ i, g i = if i < σ.1 1002 j then some (L (fel j) (σ.2.2.1 1001 j i)) else none) : lrefs (up2 L 1001 j b) (ladd j x σ) j = va_up g (σ.1 1002 j) (some (L (fel j) x)) := funext fun i => by
  unfold lrefs va_up
  rw [ladd_N, ladd_A, up2_n (fun z => (fel_ne j).1 z.1)]
  by_cases c : i = σ.1 1002 j
  · subst c
    rw [if_pos (Nat.lt_succ_self _), if_pos rfl, up1_s]
  · rw [if_neg c, hg]
    by_cases c2 : i < σ.1 1002 j
    · rw [if_pos c2, if_pos (by omega), up1_n c]
    · rw [if_neg c2, if_neg (by omega)]
def lrem (j i : Nat) (σ : St) : St := (up2 σ.1 1002 j (σ.1 1002 j - 1), up2 σ.2.1 1000 j (σ.2.1 1000 j + nI 1), up2 σ.2.2.1 1001 j (fun k => if k < i then σ.2.2.1 1001 j k else σ.2.2.1 1001 j (k + 1)), σ.2.2.2)
theorem lrem_off (j i : Nat) (L : Lay) (σ : St) : OffL j L L σ (lrem j i σ) := by
  refine ⟨fun F k h => ⟨?_, ?_⟩, fun F k h => ⟨?_, rfl⟩, fun F k h => rfl⟩
  · show up2 σ.1 1002 j (σ.1 1002 j - 1) F k = _
    rw [up2_n (fun z => h ⟨Or.inr (Or.inr (Or.inl z.1)), z.2⟩)]
  · show up2 σ.2.1 1000 j (σ.2.1 1000 j + nI 1) F k = _
    rw [up2_n (fun z => h ⟨Or.inl z.1, z.2⟩)]
  · show up2 σ.2.2.1 1001 j _ F k = _
    rw [up2_n h]
theorem lrem_N (j i : Nat) (σ : St) : (lrem j i σ).1 1002 j = σ.1 1002 j - 1 := by
  show up2 σ.1 1002 j (σ.1 1002 j - 1) 1002 j = _
  exact up2_s
theorem lrem_C (j i : Nat) (σ : St) : (lrem j i σ).1 1003 j = σ.1 1003 j := by
  show up2 σ.1 1002 j (σ.1 1002 j - 1) 1003 j = _
  exact up2_n (fun z => absurd z.1 (by decide))
theorem lrem_I (j i : Nat) (σ : St) : (lrem j i σ).2.1 1000 j = σ.2.1 1000 j + nI 1 := by
  show up2 σ.2.1 1000 j (σ.2.1 1000 j + nI 1) 1000 j = _
  exact up2_s
theorem lrem_A (j i : Nat) (σ : St) : (lrem j i σ).2.2.1 1001 j = fun k => if k < i then σ.2.2.1 1001 j k else σ.2.2.1 1001 j (k + 1) := by
  show up2 σ.2.2.1 1001 j (fun k => if k < i then σ.2.2.1 1001 j k else σ.2.2.1 1001 j (k + 1)) 1001 j = _
  exact up2_s
theorem lrem_refs {j i : Nat} {L : Lay} {σ : St} (hi : i < σ.1 1002 j) : lrefs L (lrem j i σ) j = va_up (va_cpy (lrefs L σ j) (lrefs L σ j) (i + 1) i (σ.1 1002 j - 1 - i)) (σ.1 1002 j - 1) none := funext fun k => by
  unfold va_up va_cpy
  show (if k < (lrem j i σ).1 1002 j then some (L (fel j) ((lrem j i σ).2.2.1 1001 j k)) else none) = _
  rw [lrem_N, lrem_A]
  by_cases c : k = σ.1 1002 j - 1
  · rw [if_pos c, if_neg (by omega)]
  · rw [if_neg c]
    by_cases c2 : k < i
    · rw [if_pos (by omega), if_neg (by omega)]
      unfold lrefs
      rw [if_pos (by omega)]
      show some (L (fel j) (if k < i then _ else _)) = _
      rw [if_pos c2]
    · by_cases c3 : k < σ.1 1002 j - 1
      · rw [if_pos c3, if_pos ⟨by omega, by omega⟩, show i + 1 + (k - i) = k + 1 by omega]
        unfold lrefs
        rw [if_pos (by omega)]
        show some (L (fel j) (if k < i then _ else _)) = _
        rw [if_neg c2]
      · rw [if_neg c3, if_neg (by omega)]
        unfold lrefs
        rw [if_neg (by omega)]
def lclr (j : Nat) (σ : St) : St := (up2 σ.1 1002 j 0, up2 σ.2.1 1000 j (σ.2.1 1000 j + nI 1), σ.2.2.1, σ.2.2.2)
theorem lclr_off (j : Nat) (L : Lay) (σ : St) : OffL j L L σ (lclr j σ) := by
  refine ⟨fun F k h => ⟨?_, ?_⟩, fun F k h => ⟨rfl, rfl⟩, fun F k h => rfl⟩
  · show up2 σ.1 1002 j 0 F k = _
    rw [up2_n (fun z => h ⟨Or.inr (Or.inr (Or.inl z.1)), z.2⟩)]
  · show up2 σ.2.1 1000 j (σ.2.1 1000 j + nI 1) F k = _
    rw [up2_n (fun z => h ⟨Or.inl z.1, z.2⟩)]
theorem lclr_N (j : Nat) (σ : St) : (lclr j σ).1 1002 j = 0 := by
  show up2 σ.1 1002 j 0 1002 j = _
  exact up2_s
theorem lclr_C (j : Nat) (σ : St) : (lclr j σ).1 1003 j = σ.1 1003 j := by
  show up2 σ.1 1002 j 0 1003 j = _
  exact up2_n (fun z => absurd z.1 (by decide))
theorem lclr_I (j : Nat) (σ : St) : (lclr j σ).2.1 1000 j = σ.2.1 1000 j + nI 1 := by
  show up2 σ.2.1 1000 j (σ.2.1 1000 j + nI 1) 1000 j = _
  exact up2_s
theorem lclr_refs {j : Nat} {L : Lay} {σ : St} : lrefs L (lclr j σ) j = fun k => if k < σ.1 1002 j then none else lrefs L σ j k := funext fun k => by
  show (if k < (lclr j σ).1 1002 j then some (L (fel j) (σ.2.2.1 1001 j k)) else none) = _
  rw [lclr_N, if_neg (Nat.not_lt_zero _)]
  by_cases c : k < σ.1 1002 j
  · rw [if_pos c]
  · rw [if_neg c]
    unfold lrefs
    rw [if_neg c]
end PL
