/-! what the law's cases need -/
theorem plan_room {σ τ : St} (h : Rl wr0 σ τ) {p9 : Int32} : ix p9 (τ.1 924 0) → τ.2.2.2 920 0 (tn p9) = 0 → τ.1 926 0 < 6 := fun c z => by
  have e1 : σ.1 1002 1 = τ.1 924 0 := h.2.2.2.2.2.2.1.2.1
  have e2 : σ.1 1002 2 = τ.1 926 0 := h.2.2.2.2.2.2.1.2.2.1
  have := q_room h.2.2.2.2.2.2.2.2.2.2.2.2.1 h.2.2.2.1 h.2.2.2.2.2.2.1 (P := tn p9) (by rw [e1]; exact ix_tn c) (by rw [z]; decide)
  omega
theorem op_program {D : va_G} {cI cZ cO : ClassId} {t0 mi : Nat} {l : Launch} (hl9 : l.stackTraces = false) : OP_program D cI cZ cO t0 mi l (Rl wr0) := fun σ τ h => by
  have kr := h.1
  have ci := kr.1
  have rc := h.2.2.2.1
  have gn := h.2.2.2.2.2.2.1
  have pi := rl_pi h
  have b900 := bound_900 h
  have h932 : τ.1 932 0 ≤ 4 := by have := gn.2.2.2.1; have := rc.2.2.2.2.1; omega
  have h904 : τ.1 904 0 ≤ 6 := pi.1
  obtain ⟨q1, q2, q3, q4⟩ := p_program h
  exact ⟨_, _, _, _, _, fun L ow => y_X8_program l hl9 L σ ow ci, fun L ow => c_X9_program l L τ ow (by omega), q1, q2, q3, q4⟩
theorem kn_block {σ : St} {v1 v2 v3 : Int32} : (k_block v1 v2 v3 σ).2.2.1 1002 = σ.1 1002 ∧ (k_block v1 v2 v3 σ).2.2.1 1003 = σ.1 1003 := by
  unfold k_block
  repeat' split
  all_goals exact ⟨rfl, rfl⟩
theorem op_block {D : va_G} {cI cZ cO : ClassId} {t0 mi : Nat} {l : Launch} (hl9 : l.stackTraces = false) : OP_block D cI cZ cO t0 mi l (Rl wr0) := fun σ τ h v1 v2 v3 => by
  have kr := h.1
  have ci := kr.1
  have sb := h.2.2.2.2.2.1
  have pi := rl_pi h
  have qi := rl_qi h
  have h402 := kr.2.1
  have h926 : τ.1 926 0 ≤ 6 := qi.1
  have h904 : τ.1 904 0 ≤ 6 := pi.1
  have h903 := sb.2.1
  obtain ⟨q1, q2, q3, q4⟩ := p_block h v1 v2 v3
  exact ⟨_, _, _, _, _, fun L ow => yi_of_zi (z_X8_block l hl9 L σ ow v1 v2 v3 h402 ci) kn_block, fun L ow => c_X9_block l L τ ow v1 v2 v3 h904 h903 h926, q1, q2, q3, q4⟩
theorem kn_map {σ : St} {v1 v2 : Int32} : (k_map v1 v2 σ).2.2.1 1002 = σ.1 1002 ∧ (k_map v1 v2 σ).2.2.1 1003 = σ.1 1003 := by
  unfold k_map
  repeat' split
  all_goals exact ⟨rfl, rfl⟩
theorem op_map {D : va_G} {cI cZ cO : ClassId} {t0 mi : Nat} {l : Launch} (hl9 : l.stackTraces = false) : OP_map D cI cZ cO t0 mi l (Rl wr0) := fun σ τ h v1 v2 => by
  have kr := h.1
  have ci := kr.1
  obtain ⟨q1, q2, q3, q4⟩ := p_map h v1 v2
  exact ⟨_, _, _, _, _, fun L ow => yi_of_zi (z_X8_map l hl9 L σ ow v1 v2 ci) kn_map, fun L ow => c_X9_map l L τ ow v1 v2 , q1, q2, q3, q4⟩
theorem op_tool {D : va_G} {cI cZ cO : ClassId} {t0 mi : Nat} {l : Launch} (hl9 : l.stackTraces = false) : OP_tool D cI cZ cO t0 mi l (Rl wr0) := fun σ τ h v1 v2 => by
  have kr := h.1
  have ci := kr.1
  have sb := h.2.2.2.2.2.1
  have si := sb.1
  have h914 : τ.1 914 0 ≤ 16 := si.2.2.2.2.1
  obtain ⟨q1, q2, q3, q4⟩ := p_tool h v1 v2
  exact ⟨_, _, _, _, _, fun L ow => y_X8_tool l hl9 L σ ow v1 v2 ci, fun L ow => c_X9_tool l L τ ow v1 v2 h914, q1, q2, q3, q4⟩
theorem kn_load {σ : St} {v1 v2 : Int32} : (k_load v1 v2 σ).2.2.1 1002 = σ.1 1002 ∧ (k_load v1 v2 σ).2.2.1 1003 = σ.1 1003 := by
  unfold k_load
  repeat' split
  all_goals exact ⟨rfl, rfl⟩
theorem op_load {D : va_G} {cI cZ cO : ClassId} {t0 mi : Nat} {l : Launch} (hl9 : l.stackTraces = false) : OP_load D cI cZ cO t0 mi l (Rl wr0) := fun σ τ h v1 v2 h01 => by
  have kr := h.1
  have ci := kr.1
  have sb := h.2.2.2.2.2.1
  have si := sb.1
  have h914 : τ.1 914 0 ≤ 16 := si.2.2.2.2.1
  have hb : b2i (¬ v2 = 0) = v2 := by
    unfold b2i
    rcases h01 with rfl | rfl
    · rw [if_neg (by decide)]; rfl
    · rw [if_pos (by decide)]; rfl
  obtain ⟨q1, q2, q3, q4⟩ := p_load h v1 v2 h01
  exact ⟨_, _, _, _, _, fun L ow => yi_of_zi (z_X8_load l hl9 L σ ow v1 v2 h01 ci) kn_load, fun L ow => by have z := c_X9_load (D := D) (cI := cI) (cZ := cZ) (cO := cO) l L τ ow v1 (¬ v2 = 0) h914; rw [hb] at z; exact z, q1, q2, q3, q4⟩
theorem op_pallet {D : va_G} {cI cZ cO : ClassId} {t0 mi : Nat} {l : Launch} (hl9 : l.stackTraces = false) : OP_pallet D cI cZ cO t0 mi l (Rl wr0) := fun σ τ h v1 => by
  have kr := h.1
  have ci := kr.1
  have rc := h.2.2.2.1
  have gn := h.2.2.2.2.2.2.1
  have h924 : τ.1 924 0 ≤ 6 := by have := gn.2.1; have := rc.2.1; omega
  obtain ⟨q1, q2, q3, q4⟩ := p_pallet h v1
  exact ⟨_, _, _, _, _, fun L ow => y_X8_pallet l hl9 L σ ow v1 ci, fun L ow => c_X9_pallet l L τ ow v1 h924, q1, q2, q3, q4⟩
theorem kn_clamp {σ : St} {v1 v2 v3 v4 : Int32} : (k_clamp v1 v2 v3 v4 σ).2.2.1 1002 = σ.1 1002 ∧ (k_clamp v1 v2 v3 v4 σ).2.2.1 1003 = σ.1 1003 := by
  unfold k_clamp
  repeat' split
  all_goals exact ⟨rfl, rfl⟩
theorem op_clamp {D : va_G} {cI cZ cO : ClassId} {t0 mi : Nat} {l : Launch} (hl9 : l.stackTraces = false) : OP_clamp D cI cZ cO t0 mi l (Rl wr0) := fun σ τ h v1 v2 v3 v4 => by
  have kr := h.1
  have ci := kr.1
  have rc := h.2.2.2.1
  have rb := h.2.2.2.2.1
  have sb := h.2.2.2.2.2.1
  have gn := h.2.2.2.2.2.2.1
  have h205 := rb.2.1
  have h924 : τ.1 924 0 ≤ 6 := by have := gn.2.1; have := rc.2.1; omega
  have h919 := sb.2.2.1
  obtain ⟨q1, q2, q3, q4⟩ := p_clamp h v1 v2 v3 v4
  exact ⟨_, _, _, _, _, fun L ow => yi_of_zi (z_X8_clamp l hl9 L σ ow v1 v2 v3 v4 h205 ci) kn_clamp, fun L ow => c_X9_clamp l L τ ow v1 v2 v3 v4 h924 h919, q1, q2, q3, q4⟩
theorem op_prove {D : va_G} {cI cZ cO : ClassId} {t0 mi : Nat} {l : Launch} (hl9 : l.stackTraces = false) : OP_prove D cI cZ cO t0 mi l (Rl wr0) := fun σ τ h v1 v2 => by
  have kr := h.1
  have rc := h.2.2.2.1
  have sb := h.2.2.2.2.2.1
  have gn := h.2.2.2.2.2.2.1
  have si := sb.1
  have pi := rl_pi h
  have h924 : τ.1 924 0 ≤ 6 := by have := gn.2.1; have := rc.2.1; omega
  obtain ⟨q1, q2, q3, q4⟩ := p_prove h v1 v2
  exact ⟨_, _, _, _, _, fun L ow => y_X8_prove l hl9 L σ ow v1 v2 kr, fun L ow => c_X9_prove l L τ ow v1 v2 h924 si pi, q1, q2, q3, q4⟩
theorem op_takes {D : va_G} {cI cZ cO : ClassId} {t0 mi : Nat} {l : Launch} (hl9 : l.stackTraces = false) : OP_takes D cI cZ cO t0 mi l (Rl wr0) := fun σ τ h v1 v2 => by
  have kr := h.1
  have rc := h.2.2.2.1
  have sb := h.2.2.2.2.2.1
  have gn := h.2.2.2.2.2.2.1
  have si := sb.1
  have pi := rl_pi h
  have h924 : τ.1 924 0 ≤ 6 := by have := gn.2.1; have := rc.2.1; omega
  obtain ⟨q1, q2, q3, q4⟩ := p_takes h v1 v2
  exact ⟨_, _, _, _, _, fun L ow => y_X8_takes l hl9 L σ ow v1 v2 kr, fun L ow => c_X9_takes l L τ ow v1 v2 h924 si pi, q1, q2, q3, q4⟩
theorem op_plan {D : va_G} {cI cZ cO : ClassId} {t0 mi : Nat} {l : Launch} (hl9 : l.stackTraces = false) : OP_plan D cI cZ cO t0 mi l (Rl wr0) := fun σ τ h v1 v2 => by
  have kr := h.1
  have rc := h.2.2.2.1
  have sb := h.2.2.2.2.2.1
  have gn := h.2.2.2.2.2.2.1
  have si := sb.1
  have pi := rl_pi h
  have hq6 : σ.1 1002 2 ≤ 6 := rc.2.2.1
  have h924 : τ.1 924 0 ≤ 6 := by have := gn.2.1; have := rc.2.1; omega
  obtain ⟨q1, q2, q3, q4⟩ := p_plan h v1 v2
  exact ⟨_, _, _, _, _, fun L ow => y_X8_plan l hl9 L σ ow v1 v2 kr hq6, fun L ow => c_X9_plan l L τ ow v1 v2 h924 si pi (plan_room h), q1, q2, q3, q4⟩
theorem op_night {D : va_G} {cI cZ cO : ClassId} {t0 mi : Nat} {l : Launch} (hl9 : l.stackTraces = false) : OP_night D cI cZ cO t0 mi l (Rl wr0) := fun σ τ h => by
  have kr := h.1
  have ti := h.2.1
  have rc := h.2.2.2.1
  have sb := h.2.2.2.2.2.1
  have si := sb.1
  have pi := rl_pi h
  have qi := rl_qi h
  have qp := rl_qp h
  have hq6 : σ.1 1002 2 ≤ 6 := rc.2.2.1
  obtain ⟨q3, q4⟩ := p_night h
  exact ⟨_, _, _, _, fun L ow => x_X8_night l L σ ow kr ti qp hq6, fun L ow => c_X9_night l L τ ow si pi qi, q3, q4⟩
theorem op_foresees {D : va_G} {cI cZ cO : ClassId} {t0 mi : Nat} {l : Launch} (hl9 : l.stackTraces = false) : OP_foresees D cI cZ cO t0 mi l (Rl wr0) := fun σ τ h => by
  have kr := h.1
  have ti := h.2.1
  have rc := h.2.2.2.1
  have sb := h.2.2.2.2.2.1
  have si := sb.1
  have pi := rl_pi h
  have qi := rl_qi h
  have qp := rl_qp h
  have hq6 : σ.1 1002 2 ≤ 6 := rc.2.2.1
  obtain ⟨q3, q4⟩ := p_foresees h
  exact ⟨_, _, _, _, fun L ow => x_X8_foresees l L σ ow kr ti qp hq6, fun L ow => c_X9_foresees l L τ ow si pi qi, q3, q4⟩
theorem op_lacks {D : va_G} {cI cZ cO : ClassId} {t0 mi : Nat} {l : Launch} (hl9 : l.stackTraces = false) : OP_lacks D cI cZ cO t0 mi l (Rl wr0) := fun σ τ h v1 => by
  have kr := h.1
  have ti := h.2.1
  have rc := h.2.2.2.1
  have sb := h.2.2.2.2.2.1
  have si := sb.1
  have pi := rl_pi h
  have qi := rl_qi h
  have qp := rl_qp h
  have hq6 : σ.1 1002 2 ≤ 6 := rc.2.2.1
  obtain ⟨q1, q2, q3, q4⟩ := p_lacks h v1
  exact ⟨_, _, _, _, _, fun L ow => y_X8_lacks l hl9 L σ ow v1 kr ti qp hq6, fun L ow => c_X9_lacks l L τ ow v1 si pi qi, q1, q2, q3, q4⟩
theorem kn_idle {σ : St} {v1 : Int32} : (k_idle v1 σ).2.2.1 1002 = σ.1 1002 ∧ (k_idle v1 σ).2.2.1 1003 = σ.1 1003 := by
  unfold k_idle
  repeat' split
  all_goals exact ⟨rfl, rfl⟩
theorem op_idle {D : va_G} {cI cZ cO : ClassId} {t0 mi : Nat} {l : Launch} (hl9 : l.stackTraces = false) : OP_idle D cI cZ cO t0 mi l (Rl wr0) := fun σ τ h v1 => by
  have kr := h.1
  have ci := kr.1
  have ti := h.2.1
  have gt := h.2.2.2.2.2.2.2.1
  have b900 := bound_900 h
  have h811 : σ.1 811 0 ≤ 1100000 := by have := gt.1; have := b900; omega
  have h812 : σ.1 812 0 ≤ 99 := ti.2.2
  have h900 : τ.1 900 0 ≤ 1100000 := by have := b900; omega
  have h901 := gt.2.2.2
  obtain ⟨q1, q2, q3, q4⟩ := p_idle h v1
  exact ⟨_, _, _, _, _, fun L ow => yi_of_zi (z_X8_idle l hl9 L σ ow v1 h811 h812 ci) kn_idle, fun L ow => c_X9_idle l L τ ow v1 h900 h901, q1, q2, q3, q4⟩
theorem kn_calibrate {σ : St} {v1 v2 : Int32} : (k_calibrate v1 v2 σ).2.2.1 1002 = σ.1 1002 ∧ (k_calibrate v1 v2 σ).2.2.1 1003 = σ.1 1003 := by
  unfold k_calibrate
  repeat' split
  all_goals exact ⟨rfl, rfl⟩
theorem op_calibrate {D : va_G} {cI cZ cO : ClassId} {t0 mi : Nat} {l : Launch} (hl9 : l.stackTraces = false) : OP_calibrate D cI cZ cO t0 mi l (Rl wr0) := fun σ τ h v1 v2 => by
  have kr := h.1
  have ci := kr.1
  obtain ⟨q1, q2, q3, q4⟩ := p_calibrate h v1 v2
  exact ⟨_, _, _, _, _, fun L ow => yi_of_zi (z_X8_calibrate l hl9 L σ ow v1 v2 ci) kn_calibrate, fun L ow => c_X9_calibrate l L τ ow v1 v2 , q1, q2, q3, q4⟩
theorem op_drawing {D : va_G} {cI cZ cO : ClassId} {t0 mi : Nat} {l : Launch} (hl9 : l.stackTraces = false) : OP_drawing D cI cZ cO t0 mi l (Rl wr0) := fun σ τ h => by
  have kr := h.1
  have ci := kr.1
  have rc := h.2.2.2.1
  have gn := h.2.2.2.2.2.2.1
  have pi := rl_pi h
  have b900 := bound_900 h
  have h932 : τ.1 932 0 ≤ 4 := by have := gn.2.2.2.1; have := rc.2.2.2.2.1; omega
  have h904 : τ.1 904 0 ≤ 6 := pi.1
  obtain ⟨q1, q2, q3, q4⟩ := p_drawing h
  exact ⟨_, _, _, _, _, fun L ow => y_X8_drawing l hl9 L σ ow ci, fun L ow => c_X9_drawing l L τ ow (by omega), q1, q2, q3, q4⟩
theorem kn_feature {σ : St} {v1 v2 v3 v4 v5 : Int32} : (k_feature v1 v2 v3 v4 v5 σ).2.2.1 1002 = σ.1 1002 ∧ (k_feature v1 v2 v3 v4 v5 σ).2.2.1 1003 = σ.1 1003 := by
  unfold k_feature
  repeat' split
  all_goals exact ⟨rfl, rfl⟩
theorem op_feature {D : va_G} {cI cZ cO : ClassId} {t0 mi : Nat} {l : Launch} (hl9 : l.stackTraces = false) : OP_feature D cI cZ cO t0 mi l (Rl wr0) := fun σ τ h v1 v2 v3 v4 v5 => by
  have kr := h.1
  have ci := kr.1
  have rc := h.2.2.2.1
  have rb := h.2.2.2.2.1
  have sb := h.2.2.2.2.2.1
  have gn := h.2.2.2.2.2.2.1
  have h5 := rb.1
  have h932 : τ.1 932 0 ≤ 4 := by have := gn.2.2.2.1; have := rc.2.2.2.2.1; omega
  have h931 := sb.2.2.2.1
  obtain ⟨q1, q2, q3, q4⟩ := p_feature h v1 v2 v3 v4 v5
  exact ⟨_, _, _, _, _, fun L ow => yi_of_zi (z_X8_feature l hl9 L σ ow v1 v2 v3 v4 v5 h5 ci) kn_feature, fun L ow => c_X9_feature l L τ ow v1 v2 v3 v4 v5 h932 h931, q1, q2, q3, q4⟩
theorem kn_allow {σ : St} {v1 v2 v3 v4 : Int32} : (k_allow v1 v2 v3 v4 σ).2.2.1 1002 = σ.1 1002 ∧ (k_allow v1 v2 v3 v4 σ).2.2.1 1003 = σ.1 1003 := by
  unfold k_allow
  repeat' split
  all_goals exact ⟨rfl, rfl⟩
theorem op_allow {D : va_G} {cI cZ cO : ClassId} {t0 mi : Nat} {l : Launch} (hl9 : l.stackTraces = false) : OP_allow D cI cZ cO t0 mi l (Rl wr0) := fun σ τ h v1 v2 v3 v4 => by
  have kr := h.1
  have ci := kr.1
  have rc := h.2.2.2.1
  have rb := h.2.2.2.2.1
  have sb := h.2.2.2.2.2.1
  have gn := h.2.2.2.2.2.2.1
  have h5 := rb.1
  have h932 : τ.1 932 0 ≤ 4 := by have := gn.2.2.2.1; have := rc.2.2.2.2.1; omega
  have h931 := sb.2.2.2.1
  obtain ⟨q1, q2, q3, q4⟩ := p_allow h v1 v2 v3 v4
  exact ⟨_, _, _, _, _, fun L ow => yi_of_zi (z_X8_allow l hl9 L σ ow v1 v2 v3 v4 h5 ci) kn_allow, fun L ow => c_X9_allow l L τ ow v1 v2 v3 v4 h932 h931, q1, q2, q3, q4⟩
theorem op_judge {D : va_G} {cI cZ cO : ClassId} {t0 mi : Nat} {l : Launch} (hl9 : l.stackTraces = false) : OP_judge D cI cZ cO t0 mi l (Rl wr0) := fun σ τ h v1 v2 v3 => by
  have kr := h.1
  have ci := kr.1
  have rc := h.2.2.2.1
  have rb := h.2.2.2.2.1
  have sb := h.2.2.2.2.2.1
  have gn := h.2.2.2.2.2.2.1
  have si := sb.1
  have pi := rl_pi h
  have b900 := bound_900 h
  have h5 := rb.1
  have h506 : ∀ k, σ.1 506 k ≤ 999000 := fun k => by have := rb.2.2.2.1 k; have := rc.2.2.2.2.2.1; omega
  have hcl := rb.2.2.2.2.1
  have hpl : ∀ k i, σ.2.2.1 4 k i < 100000 := fun k i => by have := rb.2.2.2.2.2 k i; omega
  have h914 : τ.1 914 0 ≤ 16 := si.2.2.2.2.1
  have h924 : τ.1 924 0 ≤ 6 := by have := gn.2.1; have := rc.2.1; omega
  have h932 : τ.1 932 0 ≤ 4 := by have := gn.2.2.2.1; have := rc.2.2.2.2.1; omega
  have h934 : τ.1 934 0 ≤ 30 := by have := gn.2.2.2.2.1; have := rc.2.2.2.2.2.1; omega
  have h904 : τ.1 904 0 ≤ 6 := pi.1
  have h931 := sb.2.2.2.1
  have h927 := sb.2.2.2.2.2.2.1
  have h930 := sb.2.2.2.2.2.2.2.1
  have hxy := sb.2.2.2.2.2.2.2.2.1
  have hcut : ∀ i, i < 864 → τ.2.2.2 917 0 i = (-1) ∨ ix (τ.2.2.2 917 0 i) 16 := fun i hi => by
    rcases sb.2.2.2.2.2.2.2.2.2.1 i hi with z | z | z
    · exact Or.inl z
    · exact Or.inr ⟨z.1, by have := z.2; have := h914; omega⟩
    · exact Or.inr (by rw [z.2]; exact ⟨by decide, by decide⟩)
  obtain ⟨q1, q2, q3, q4⟩ := p_judge h v1 v2 v3
  exact ⟨_, _, _, _, _, fun L ow => y_X8_judge l hl9 L σ ow v1 v2 v3 ci h5 h506 hcl hpl, fun L ow => c_X9_judge l L τ ow v1 v2 v3 h934 h924 h932 (by omega) (fun k => by have := h927 k; omega) h931 (fun i => by have := h930 i; omega) hxy hcut, q1, q2, q3, q4⟩
theorem kn_correct {σ : St} {v1 : Int32} : (k_correct v1 σ).2.2.1 1002 = σ.1 1002 ∧ (k_correct v1 σ).2.2.1 1003 = σ.1 1003 := by
  unfold k_correct k_corr
  repeat' split
  all_goals exact ⟨rfl, rfl⟩
theorem op_correct {D : va_G} {cI cZ cO : ClassId} {t0 mi : Nat} {l : Launch} (hl9 : l.stackTraces = false) : OP_correct D cI cZ cO t0 mi l (Rl wr0) := fun σ τ h v1 => by
  have kr := h.1
  have ci := kr.1
  have rc := h.2.2.2.1
  have rb := h.2.2.2.2.1
  have sb := h.2.2.2.2.2.1
  have gn := h.2.2.2.2.2.2.1
  have si := sb.1
  have h506b : ∀ k, σ.1 506 k < 1000000 := fun k => by have := rb.2.2.2.1 k; have := rc.2.2.2.2.2.1; omega
  have h914 : τ.1 914 0 ≤ 16 := si.2.2.2.2.1
  have h934 : τ.1 934 0 ≤ 30 := by have := gn.2.2.2.2.1; have := rc.2.2.2.2.2.1; omega
  have h913 : ∀ k, τ.2.2.1 913 0 k < 1000000 := fun k => by have := sb.2.2.2.2.1 k; have := h934; omega
  obtain ⟨q1, q2, q3, q4⟩ := p_correct h v1
  exact ⟨_, _, _, _, _, fun L ow => yi_of_zi (z_X8_correct l hl9 L σ ow v1 h506b ci) kn_correct, fun L ow => c_X9_correct l L τ ow v1 h914 h913, q1, q2, q3, q4⟩
theorem op_minute {D : va_G} {cI cZ cO : ClassId} {t0 mi : Nat} {l : Launch} (hl9 : l.stackTraces = false) : OP_minute D cI cZ cO t0 mi l (Rl wr0) := fun σ τ h => by
  have kr := h.1
  have ci := kr.1
  exact ⟨_, σ, _, _, fun L ow => xi_of_rm (c_X8_minute l L σ ow ci), fun L ow => c_X9_minute l L τ ow, (p_minute h).1, rl_944 h⟩
theorem op_warmth {D : va_G} {cI cZ cO : ClassId} {t0 mi : Nat} {l : Launch} (hl9 : l.stackTraces = false) : OP_warmth D cI cZ cO t0 mi l (Rl wr0) := fun σ τ h => by
  have kr := h.1
  have ci := kr.1
  exact ⟨_, σ, _, _, fun L ow => xi_of_rm (c_X8_warmth l L σ ow ci), fun L ow => c_X9_warmth l L τ ow, (p_minute h).2, rl_944 h⟩
theorem kn_ofTool {σ : St} {v1 v2 : Int32} : (k_ofTool v1 v2 σ).2.2.1 1002 = σ.1 1002 ∧ (k_ofTool v1 v2 σ).2.2.1 1003 = σ.1 1003 := by
  unfold k_ofTool
  repeat' split
  all_goals exact ⟨rfl, rfl⟩
theorem op_ofTool {D : va_G} {cI cZ cO : ClassId} {t0 mi : Nat} {l : Launch} (hl9 : l.stackTraces = false) : OP_ofTool D cI cZ cO t0 mi l (Rl wr0) := fun σ τ h v1 v2 => by
  have kr := h.1
  have ci := kr.1
  have sb := h.2.2.2.2.2.1
  have si := sb.1
  have h914 : τ.1 914 0 ≤ 16 := si.2.2.2.2.1
  obtain ⟨q1, q2, q3, q4⟩ := p_ofTool h v1 v2
  exact ⟨_, _, _, _, _, fun L ow => yi_of_zi (z_X8_ofTool l hl9 L σ ow v1 v2 ci) kn_ofTool, fun L ow => c_X9_ofTool l L τ ow v1 v2 h914, q1, q2, q3, q4⟩
theorem kn_ofCell {σ : St} {v1 v2 v3 v4 : Int32} : (k_ofCell v1 v2 v3 v4 σ).2.2.1 1002 = σ.1 1002 ∧ (k_ofCell v1 v2 v3 v4 σ).2.2.1 1003 = σ.1 1003 := by
  unfold k_ofCell
  repeat' split
  all_goals exact ⟨rfl, rfl⟩
theorem op_ofCell {D : va_G} {cI cZ cO : ClassId} {t0 mi : Nat} {l : Launch} (hl9 : l.stackTraces = false) : OP_ofCell D cI cZ cO t0 mi l (Rl wr0) := fun σ τ h v1 v2 v3 v4 => by
  have kr := h.1
  have ci := kr.1
  have rc := h.2.2.2.1
  have gn := h.2.2.2.2.2.2.1
  have h924 : τ.1 924 0 ≤ 6 := by have := gn.2.1; have := rc.2.1; omega
  obtain ⟨q1, q2, q3, q4⟩ := p_ofCell h v1 v2 v3 v4
  exact ⟨_, _, _, _, _, fun L ow => yi_of_zi (z_X8_ofCell l hl9 L σ ow v1 v2 v3 v4 ci) kn_ofCell, fun L ow => c_X9_ofCell l L τ ow v1 v2 v3 v4 h924, q1, q2, q3, q4⟩
theorem kn_ofPallet {σ : St} {v1 v2 : Int32} : (k_ofPallet v1 v2 σ).2.2.1 1002 = σ.1 1002 ∧ (k_ofPallet v1 v2 σ).2.2.1 1003 = σ.1 1003 := by
  unfold k_ofPallet
  repeat' split
  all_goals exact ⟨rfl, rfl⟩
theorem op_ofPallet {D : va_G} {cI cZ cO : ClassId} {t0 mi : Nat} {l : Launch} (hl9 : l.stackTraces = false) : OP_ofPallet D cI cZ cO t0 mi l (Rl wr0) := fun σ τ h v1 v2 => by
  have kr := h.1
  have ci := kr.1
  have rc := h.2.2.2.1
  have sb := h.2.2.2.2.2.1
  have gn := h.2.2.2.2.2.2.1
  have qi := rl_qi h
  have h924 : τ.1 924 0 ≤ 6 := by have := gn.2.1; have := rc.2.1; omega
  have h926 : τ.1 926 0 ≤ 6 := qi.1
  have h925 := sb.2.2.2.2.2.1
  obtain ⟨q1, q2, q3, q4⟩ := p_ofPallet h v1 v2
  exact ⟨_, _, _, _, _, fun L ow => yi_of_zi (z_X8_ofPallet l hl9 L σ ow v1 v2 ci) kn_ofPallet, fun L ow => c_X9_ofPallet l L τ ow v1 v2 h924 h926 h925, q1, q2, q3, q4⟩
theorem kn_ofPaper {σ : St} {v1 v2 : Int32} : (k_ofPaper v1 v2 σ).2.2.1 1002 = σ.1 1002 ∧ (k_ofPaper v1 v2 σ).2.2.1 1003 = σ.1 1003 := by
  unfold k_ofPaper
  repeat' split
  all_goals exact ⟨rfl, rfl⟩
theorem op_ofPaper {D : va_G} {cI cZ cO : ClassId} {t0 mi : Nat} {l : Launch} (hl9 : l.stackTraces = false) : OP_ofPaper D cI cZ cO t0 mi l (Rl wr0) := fun σ τ h v1 v2 => by
  have kr := h.1
  have ci := kr.1
  have rc := h.2.2.2.1
  have rb := h.2.2.2.2.1
  have gn := h.2.2.2.2.2.2.1
  have h306 := rb.2.2.1
  have h934 : τ.1 934 0 ≤ 30 := by have := gn.2.2.2.2.1; have := rc.2.2.2.2.2.1; omega
  obtain ⟨q1, q2, q3, q4⟩ := p_ofPaper h v1 v2
  exact ⟨_, _, _, _, _, fun L ow => yi_of_zi (z_X8_ofPaper l hl9 L σ ow v1 v2 h306 ci) kn_ofPaper, fun L ow => c_X9_ofPaper l L τ ow v1 v2 h934, q1, q2, q3, q4⟩
theorem kn_judgeAnew {σ : St} {v1 : Int32} : (k_judgeAnew v1 σ).2.2.1 1002 = σ.1 1002 ∧ (k_judgeAnew v1 σ).2.2.1 1003 = σ.1 1003 := by
  unfold k_judgeAnew
  repeat' split
  all_goals exact ⟨rfl, rfl⟩
theorem op_judgeAnew {D : va_G} {cI cZ cO : ClassId} {t0 mi : Nat} {l : Launch} (hl9 : l.stackTraces = false) : OP_judgeAnew D cI cZ cO t0 mi l (Rl wr0) := fun σ τ h v1 => by
  have kr := h.1
  have ci := kr.1
  have rc := h.2.2.2.1
  have rb := h.2.2.2.2.1
  have gn := h.2.2.2.2.2.2.1
  have h306 := rb.2.2.1
  have h934 : τ.1 934 0 ≤ 30 := by have := gn.2.2.2.2.1; have := rc.2.2.2.2.2.1; omega
  have hnf : ∀ k, k < τ.1 934 0 → σ.1 306 k ≤ 6 ∧ τ.2.2.2 933 0 (18 * k + 17) = nI (σ.1 306 k) := fun k hk => ⟨h306 k, (h.2.2.2.2.2.2.2.2.2.2.2.2.2.2.2.1.1 k (by have := gn.2.2.2.2.1; omega)).2.2.2.2.2.1⟩
  obtain ⟨q1, q2, q3, q4⟩ := p_judgeAnew h v1
  exact ⟨_, _, _, _, _, fun L ow => yi_of_zi (z_X8_judgeAnew l hl9 L σ ow v1 h306 ci) kn_judgeAnew, fun L ow => c_X9_judgeAnew l L τ ow v1 h934 (fun q => σ.1 306 q) hnf, q1, q2, q3, q4⟩
theorem ops_all {l : Launch} (hl9 : l.stackTraces = false) (D : va_G) (cI cZ cO : ClassId) (t0 mi : Nat) : OPS D cI cZ cO t0 mi l (Rl wr0) := ⟨op_program hl9, op_block hl9, op_map hl9, op_tool hl9, op_load hl9, op_pallet hl9, op_clamp hl9, op_prove hl9, op_takes hl9, op_plan hl9, op_night hl9, op_foresees hl9, op_lacks hl9, op_idle hl9, op_calibrate hl9, op_drawing hl9, op_feature hl9, op_allow hl9, op_judge hl9, op_correct hl9, op_minute hl9, op_warmth hl9, op_ofTool hl9, op_ofCell hl9, op_ofPallet hl9, op_ofPaper hl9, op_judgeAnew hl9⟩
