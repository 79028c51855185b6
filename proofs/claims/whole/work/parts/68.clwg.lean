/-! WHAT HOLDS AT THE START -/
theorem st_mem1 {w : Cond} {i : Nat} (h : tables_1_1[i]? = some w) : w ∈ lw_tbl := List.mem_append_right _ (List.mem_append_left _ (List.mem_of_getElem? h))
theorem st_mem2 {w : Cond} {i : Nat} (h : tables_1_2[i]? = some w) : w ∈ lw_tbl := List.mem_append_right _ (List.mem_append_right _ (List.mem_append_left _ (List.mem_of_getElem? h)))
theorem st_mem3 {w : Cond} {i : Nat} (h : tables_1_3[i]? = some w) : w ∈ lw_tbl := List.mem_append_right _ (List.mem_append_right _ (List.mem_append_right _ (List.mem_append_left _ (List.mem_of_getElem? h))))
theorem st_mem4 {w : Cond} {i : Nat} (h : tables_1_4[i]? = some w) : w ∈ lw_tbl := List.mem_append_right _ (List.mem_append_right _ (List.mem_append_right _ (List.mem_append_right _ (List.mem_append_left _ (List.mem_of_getElem? h)))))
theorem st_mem5 {w : Cond} {i : Nat} (h : tables_1_5[i]? = some w) : w ∈ lw_tbl := List.mem_append_right _ (List.mem_append_right _ (List.mem_append_right _ (List.mem_append_right _ (List.mem_append_right _ (List.mem_append_left _ (List.mem_of_getElem? h))))))
theorem st_mem6 {w : Cond} {i : Nat} (h : tables_1_6[i]? = some w) : w ∈ lw_tbl := List.mem_append_right _ (List.mem_append_right _ (List.mem_append_right _ (List.mem_append_right _ (List.mem_append_right _ (List.mem_append_right _ ((List.mem_of_getElem? h)))))))
section STs
variable {s : State} {args : Array Value}
theorem st_arr {ty : FieldType} (h : (Cond.arrayClass ty).before args s = true) (hty : ∀ C, ty ≠ .object C) : ∃ cA, ArrOfT s cA ty ∧ va_RA s cA ty := by
  obtain ⟨c, k, comp, h1, h2, h3⟩ := Cond.arrayClass_spec h
  refine ⟨c, fun N z => ⟨(fun k h => by cases h), k, h2, comp, h3⟩, ?_⟩
  cases ty with
  | object C => exact absurd rfl (hty C)
  | _ => exact h1
theorem st_arrO {C : String} (h : (Cond.arrayOver (.object C)).before args s = true) : ∃ cA, ArrOfT s cA (.object C) ∧ va_RA s cA (.object C) := by
  obtain ⟨comp, c, k, h1, h2, h3, h4, h5⟩ := Cond.arrayOver_spec h
  exact ⟨c, fun N z => ⟨(fun k h => by cases h), k, h3, comp, h4⟩, k, comp, h3, h4, h1, h5⟩
theorem st_cls (hts : ∀ w ∈ TB, w.before args s = true) {C : Nat} {RC : String} {T : u_T} {ty : Nat → FieldType} {N : Nat} (kc : KC C RC T ty) (hi : Cond.instantiable RC N ∈ TB) : ∃ (cC : ClassId) (iS : Nat → Nat), u_Kn s RC T (flds C).length cC iS := u_known hts kc.2.1 (hts _ hi)

theorem st_D (hts : ∀ w ∈ TB, w.before args s = true) : ∃ D : va_G, ∀ (k : Nat) (q : vw_C), vwCl[k]? = some q → u_Kn s q.1 q.2.1 q.2.2 (D.1 k) (D.2 k) := by
  obtain ⟨c0, i0, h0⟩ := st_cls (C := 10) hts kJx4a65c tw_1_35
  obtain ⟨c1, i1, h1⟩ := st_cls (C := 0) hts kX0 tw_4_39
  obtain ⟨c2, i2, h2⟩ := st_cls (C := 1) hts kX1 tw_1_136
  obtain ⟨c3, i3, h3⟩ := st_cls (C := 2) hts kX2 tw_3_146
  obtain ⟨c4, i4, h4⟩ := st_cls (C := 3) hts kX3 tw_4_112
  obtain ⟨c5, i5, h5⟩ := st_cls (C := 4) hts kX4 tw_2_231
  obtain ⟨c6, i6, h6⟩ := st_cls (C := 5) hts kX5 tw_3_83
  obtain ⟨c7, i7, h7⟩ := st_cls (C := 6) hts kX6 tw_1_110
  obtain ⟨c8, i8, h8⟩ := st_cls (C := 7) hts kX7 tw_1_61
  obtain ⟨c9, i9, h9⟩ := st_cls (C := 8) hts kX8 tw_1_27
  obtain ⟨c10, i10, h10⟩ := st_cls (C := 9) hts kX9 tw_4_233
  refine ⟨(fun k => if k = 0 then c0 else if k = 1 then c1 else if k = 2 then c2 else if k = 3 then c3 else if k = 4 then c4 else if k = 5 then c5 else if k = 6 then c6 else if k = 7 then c7 else if k = 8 then c8 else if k = 9 then c9 else  c10, fun k => if k = 0 then i0 else if k = 1 then i1 else if k = 2 then i2 else if k = 3 then i3 else if k = 4 then i4 else if k = 5 then i5 else if k = 6 then i6 else if k = 7 then i7 else if k = 8 then i8 else if k = 9 then i9 else  i10), fun k q hq => ?_⟩
  match k, hq with
  | 0, hq => cases hq; exact h0
  | 1, hq => cases hq; exact h1
  | 2, hq => cases hq; exact h2
  | 3, hq => cases hq; exact h3
  | 4, hq => cases hq; exact h4
  | 5, hq => cases hq; exact h5
  | 6, hq => cases hq; exact h6
  | 7, hq => cases hq; exact h7
  | 8, hq => cases hq; exact h8
  | 9, hq => cases hq; exact h9
  | 10, hq => cases hq; exact h10
  | k + 11, hq => simp [vwCl] at hq
theorem st_K (hts : ∀ w ∈ TB, w.before args s = true) (htl : ∀ w ∈ lw_tbl, w.before args s = true) : ∃ (D : va_G) (cI cZ cO cJ : ClassId), KJ D cI cZ cO cJ s := by
  obtain ⟨D, hD⟩ := st_D hts
  obtain ⟨cI, hI⟩ := st_arr (htl _ (st_mem1 (i := 108) rfl)) (fun _ h => by cases h)
  obtain ⟨cZ, hZ⟩ := st_arr (htl _ (st_mem5 (i := 134) rfl)) (fun _ h => by cases h)
  obtain ⟨cJ, hJ⟩ := st_arr (htl _ (st_mem6 (i := 87) rfl)) (fun _ h => by cases h)
  obtain ⟨cO, hO⟩ := st_arrO (htl _ (st_mem1 (i := 200) rfl))
  refine ⟨D, cI, cZ, cO, cJ, hD, fun k q hq => ?_⟩
  match k, hq with
  | 0, hq => cases hq; exact hI
  | 1, hq => cases hq; exact hZ
  | 2, hq => cases hq; exact hO
  | 3, hq => cases hq; exact hJ
  | k + 4, hq => simp at hq
end STs
