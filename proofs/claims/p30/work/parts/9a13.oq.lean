/-! a call of the class that is not refused, beside the state of the reference -/
theorem wk0 {T : List Nat} {e : Nat} (hT : T.length < 100) (h : nI (wk T e) = nI 0) : e = 0 := by
  have h1 : wk T e ≤ T.length + 1 := by
    unfold wk
    exact List.idxOf_le_length
  have h2 := (nI_eq (a := wk T e) (b := 0) (by omega) (by decide)).mp h
  unfold wk at h2
  rw [List.idxOf_cons] at h2
  by_cases c : (0 : Nat) == e
  · exact (beq_iff_eq.mp c).symm
  · rw [cond_eq_ite] at h2
    rw [if_neg (by simpa using c)] at h2
    omega
theorem xi_of_rm {D : va_G} {cI cZ cO : ClassId} {t0 mi : Nat} {l : Launch} {y : MethodName} {b : ByteArray} {n : Nat} {ret : Option FieldType} {fr lo : Nat} {av : List Value} {L : Lay} {σ : St} {ow : Nat → Prop} {r : Int32} (hM : RM D cI cZ cO (cdom σ) l y b n ret fr lo av L σ ow r σ) : XI D cI cZ cO t0 mi l y b n ret fr lo 0 0 av L σ ow r σ := fun sz => by
  intro p e a1 a2 a3 s m args below hf happ hP hq
  obtain ⟨hav, hsz, hK, hC, hE⟩ := hP
  obtain ⟨k, o, h1, h2, h3, hQ⟩ := hM sz p e a1 a2 a3 s m args below hf happ ⟨hav, hsz, hK, hC.1⟩ hq
  refine ⟨k, o, h1, h2, h3, ?_⟩
  obtain ⟨⟨⟨x, u, ho, hp, hb⟩, hF⟩, hL⟩ := hQ
  exact ⟨⟨⟨x, u, ho, hp, xb_rf hC hb ⟨rfl, rfl⟩⟩, hF⟩, hL⟩
theorem oq_program {D : va_G} {cI cZ cO : ClassId} {t0 mi : Nat} {l : Launch} (hl9 : l.stackTraces = false) {σ τ : St} (h : Rl wr0 σ τ) (hc : (m_program τ).2.2.1 944 0 = nI 0) : ∃ σ' : St, (∀ (L : Lay) (ow : Nat → Prop), YI D cI cZ cO t0 mi l yX8_program cX8_program 1 (some FieldType.int) 10 300 4 200 [.ref (L 899 0)] L σ ow 0 (m_program τ).1 σ') ∧ Rl wr0 σ' (m_program τ).2 := by
  have kr := h.1
  have ci := kr.1
  have rc := h.2.2.2.1
  have gn := h.2.2.2.2.2.2.1
  have pi := rl_pi h
  have b900 := bound_900 h
  have h932 : τ.1 932 0 ≤ 4 := by have := gn.2.2.2.1; have := rc.2.2.2.2.1; omega
  have h904 : τ.1 904 0 ≤ 6 := pi.1
  obtain ⟨q1, q2, q3, q4⟩ := p_program h
  have hz := wk0 (by decide) (q2.symm.trans hc)
  refine ⟨_, fun L ow => ?_, q4⟩
  have y9 := y_X8_program (D := D) (cI := cI) (cZ := cZ) (cO := cO) (t0 := t0) (mi := mi) l hl9 L σ ow ci
  rw [hz, ← q3 hz] at y9
  exact y9
theorem kn_block {σ : St} {v1 v2 v3 : Int32} : (k_block v1 v2 v3 σ).2.2.1 1002 = σ.1 1002 ∧ (k_block v1 v2 v3 σ).2.2.1 1003 = σ.1 1003 := by
  unfold k_block
  repeat' split
  all_goals exact ⟨rfl, rfl⟩
theorem oq_block {D : va_G} {cI cZ cO : ClassId} {t0 mi : Nat} {l : Launch} (hl9 : l.stackTraces = false) {σ τ : St} (h : Rl wr0 σ τ) (v1 v2 v3 : Int32) (hc : (m_block v1 v2 v3 τ).2.2.1 944 0 = nI 0) : ∃ σ' : St, (∀ (L : Lay) (ow : Nat → Prop), YI D cI cZ cO t0 mi l yX8_block cX8_block 5 (some FieldType.int) 7 142 2 12 [.ref (L 899 0), .int v1, .int v2, .int v3] L σ ow 0 (m_block v1 v2 v3 τ).1 σ') ∧ Rl wr0 σ' (m_block v1 v2 v3 τ).2 := by
  have kr := h.1
  have ci := kr.1
  have sb := h.2.2.2.2.2.1
  have pi := rl_pi h
  have qi := rl_qi h
  have h402 := kr.2.1
  have h926 : τ.1 926 0 ≤ 6 := qi.1
  have h904 : τ.1 904 0 ≤ 6 := pi.1
  have h903 := sb.2.1
  obtain ⟨q1, q2, q3, q4⟩ := p_block h v1 v2 v3
  have hz := wk0 (by decide) (q2.symm.trans hc)
  refine ⟨_, fun L ow => ?_, q4⟩
  have y9 : YI D cI cZ cO t0 mi l yX8_block cX8_block 5 (some FieldType.int) 7 142 2 12 [.ref (L 899 0), .int v1, .int v2, .int v3] L σ ow (k_block v1 v2 v3 σ).1 (k_block v1 v2 v3 σ).2.1 (k_block v1 v2 v3 σ).2.2 := yi_of_zi (z_X8_block l hl9 L σ ow v1 v2 v3 h402 ci) kn_block
  rw [hz, ← q3 hz] at y9
  exact y9
theorem kn_map {σ : St} {v1 v2 : Int32} : (k_map v1 v2 σ).2.2.1 1002 = σ.1 1002 ∧ (k_map v1 v2 σ).2.2.1 1003 = σ.1 1003 := by
  unfold k_map
  repeat' split
  all_goals exact ⟨rfl, rfl⟩
theorem oq_map {D : va_G} {cI cZ cO : ClassId} {t0 mi : Nat} {l : Launch} (hl9 : l.stackTraces = false) {σ τ : St} (h : Rl wr0 σ τ) (v1 v2 : Int32) (hc : (m_map v1 v2 τ).2.2.1 944 0 = nI 0) : ∃ σ' : St, (∀ (L : Lay) (ow : Nat → Prop), YI D cI cZ cO t0 mi l yX8_map cX8_map 4 (some FieldType.int) 6 90 1 6 [.ref (L 899 0), .int v1, .int v2] L σ ow 0 (m_map v1 v2 τ).1 σ') ∧ Rl wr0 σ' (m_map v1 v2 τ).2 := by
  have kr := h.1
  have ci := kr.1
  obtain ⟨q1, q2, q3, q4⟩ := p_map h v1 v2
  have hz := wk0 (by decide) (q2.symm.trans hc)
  refine ⟨_, fun L ow => ?_, q4⟩
  have y9 : YI D cI cZ cO t0 mi l yX8_map cX8_map 4 (some FieldType.int) 6 90 1 6 [.ref (L 899 0), .int v1, .int v2] L σ ow (k_map v1 v2 σ).1 (k_map v1 v2 σ).2.1 (k_map v1 v2 σ).2.2 := yi_of_zi (z_X8_map l hl9 L σ ow v1 v2 ci) kn_map
  rw [hz, ← q3 hz] at y9
  exact y9
theorem oq_tool {D : va_G} {cI cZ cO : ClassId} {t0 mi : Nat} {l : Launch} (hl9 : l.stackTraces = false) {σ τ : St} (h : Rl wr0 σ τ) (v1 v2 : Int32) (hc : (m_tool v1 v2 τ).2.2.1 944 0 = nI 0) : ∃ σ' : St, (∀ (L : Lay) (ow : Nat → Prop), YI D cI cZ cO t0 mi l yX8_tool cX8_tool 3 (some FieldType.int) 10 300 4 200 [.ref (L 899 0), .int v1, .int v2] L σ ow 0 (m_tool v1 v2 τ).1 σ') ∧ Rl wr0 σ' (m_tool v1 v2 τ).2 := by
  have kr := h.1
  have ci := kr.1
  have sb := h.2.2.2.2.2.1
  have si := sb.1
  have h914 : τ.1 914 0 ≤ 16 := si.2.2.2.2.1
  obtain ⟨q1, q2, q3, q4⟩ := p_tool h v1 v2
  have hz := wk0 (by decide) (q2.symm.trans hc)
  refine ⟨_, fun L ow => ?_, q4⟩
  have y9 := y_X8_tool (D := D) (cI := cI) (cZ := cZ) (cO := cO) (t0 := t0) (mi := mi) l hl9 L σ ow v1 v2 ci
  rw [hz, ← q3 hz] at y9
  exact y9
theorem kn_load {σ : St} {v1 v2 : Int32} : (k_load v1 v2 σ).2.2.1 1002 = σ.1 1002 ∧ (k_load v1 v2 σ).2.2.1 1003 = σ.1 1003 := by
  unfold k_load
  repeat' split
  all_goals exact ⟨rfl, rfl⟩
theorem oq_load {D : va_G} {cI cZ cO : ClassId} {t0 mi : Nat} {l : Launch} (hl9 : l.stackTraces = false) {σ τ : St} (h : Rl wr0 σ τ) (v1 v2 : Int32) (hv : v2 = 0 ∨ v2 = 1) (hc : (m_load v1 (¬ v2 = 0) τ).2.2.1 944 0 = nI 0) : ∃ σ' : St, (∀ (L : Lay) (ow : Nat → Prop), YI D cI cZ cO t0 mi l yX8_load cX8_load 4 (some FieldType.int) 7 143 2 12 [.ref (L 899 0), .int v1, .int v2] L σ ow 0 (m_load v1 (¬ v2 = 0) τ).1 σ') ∧ Rl wr0 σ' (m_load v1 (¬ v2 = 0) τ).2 := by
  have h01 := hv
  have kr := h.1
  have ci := kr.1
  have sb := h.2.2.2.2.2.1
  have si := sb.1
  have h914 : τ.1 914 0 ≤ 16 := si.2.2.2.2.1
  have hb : b2i (¬ v2 = 0) = v2 := by
    unfold b2i
    rcases h01 with rfl | rfl
    · rw [if_neg (by decide)]; rfl
    · rw [if_pos (by decide)]; rfl
  obtain ⟨q1, q2, q3, q4⟩ := p_load h v1 v2 h01
  have hz := wk0 (by decide) (q2.symm.trans hc)
  refine ⟨_, fun L ow => ?_, q4⟩
  have y9 : YI D cI cZ cO t0 mi l yX8_load cX8_load 4 (some FieldType.int) 7 143 2 12 [.ref (L 899 0), .int v1, .int v2] L σ ow (k_load v1 v2 σ).1 (k_load v1 v2 σ).2.1 (k_load v1 v2 σ).2.2 := yi_of_zi (z_X8_load l hl9 L σ ow v1 v2 h01 ci) kn_load
  rw [hz, ← q3 hz] at y9
  exact y9
theorem oq_pallet {D : va_G} {cI cZ cO : ClassId} {t0 mi : Nat} {l : Launch} (hl9 : l.stackTraces = false) {σ τ : St} (h : Rl wr0 σ τ) (v1 : Int32) (hc : (m_pallet v1 τ).2.2.1 944 0 = nI 0) : ∃ σ' : St, (∀ (L : Lay) (ow : Nat → Prop), YI D cI cZ cO t0 mi l yX8_pallet cX8_pallet 2 (some FieldType.int) 10 300 8 800 [.ref (L 899 0), .int v1] L σ ow 0 (m_pallet v1 τ).1 σ') ∧ Rl wr0 σ' (m_pallet v1 τ).2 := by
  have kr := h.1
  have ci := kr.1
  have rc := h.2.2.2.1
  have gn := h.2.2.2.2.2.2.1
  have h924 : τ.1 924 0 ≤ 6 := by have := gn.2.1; have := rc.2.1; omega
  obtain ⟨q1, q2, q3, q4⟩ := p_pallet h v1
  have hz := wk0 (by decide) (q2.symm.trans hc)
  refine ⟨_, fun L ow => ?_, q4⟩
  have y9 := y_X8_pallet (D := D) (cI := cI) (cZ := cZ) (cO := cO) (t0 := t0) (mi := mi) l hl9 L σ ow v1 ci
  rw [hz, ← q3 hz] at y9
  exact y9
theorem kn_clamp {σ : St} {v1 v2 v3 v4 : Int32} : (k_clamp v1 v2 v3 v4 σ).2.2.1 1002 = σ.1 1002 ∧ (k_clamp v1 v2 v3 v4 σ).2.2.1 1003 = σ.1 1003 := by
  unfold k_clamp
  repeat' split
  all_goals exact ⟨rfl, rfl⟩
theorem oq_clamp {D : va_G} {cI cZ cO : ClassId} {t0 mi : Nat} {l : Launch} (hl9 : l.stackTraces = false) {σ τ : St} (h : Rl wr0 σ τ) (v1 v2 v3 v4 : Int32) (hc : (m_clamp v1 v2 v3 v4 τ).2.2.1 944 0 = nI 0) : ∃ σ' : St, (∀ (L : Lay) (ow : Nat → Prop), YI D cI cZ cO t0 mi l yX8_clamp cX8_clamp 7 (some FieldType.int) 7 142 3 18 [.ref (L 899 0), .int v1, .int v2, .int v3, .int v4] L σ ow 0 (m_clamp v1 v2 v3 v4 τ).1 σ') ∧ Rl wr0 σ' (m_clamp v1 v2 v3 v4 τ).2 := by
  have kr := h.1
  have ci := kr.1
  have rc := h.2.2.2.1
  have rb := h.2.2.2.2.1
  have sb := h.2.2.2.2.2.1
  have gn := h.2.2.2.2.2.2.1
  have h205 := rb.2.1
  have h924 : τ.1 924 0 ≤ 6 := by have := gn.2.1; have := rc.2.1; omega
  have h919 := sb.2.2.1
  obtain ⟨q1, q2, q3, q4⟩ := p_clamp h v1 v2 v3 v4
  have hz := wk0 (by decide) (q2.symm.trans hc)
  refine ⟨_, fun L ow => ?_, q4⟩
  have y9 : YI D cI cZ cO t0 mi l yX8_clamp cX8_clamp 7 (some FieldType.int) 7 142 3 18 [.ref (L 899 0), .int v1, .int v2, .int v3, .int v4] L σ ow (k_clamp v1 v2 v3 v4 σ).1 (k_clamp v1 v2 v3 v4 σ).2.1 (k_clamp v1 v2 v3 v4 σ).2.2 := yi_of_zi (z_X8_clamp l hl9 L σ ow v1 v2 v3 v4 h205 ci) kn_clamp
  rw [hz, ← q3 hz] at y9
  exact y9
theorem oq_prove {D : va_G} {cI cZ cO : ClassId} {t0 mi : Nat} {l : Launch} (hl9 : l.stackTraces = false) {σ τ : St} (h : Rl wr0 σ τ) (v1 v2 : Int32) (hc : (m_prove v1 v2 τ).2.2.1 944 0 = nI 0) : ∃ σ' : St, (∀ (L : Lay) (ow : Nat → Prop), YI D cI cZ cO t0 mi l yX8_prove cX8_prove 3 (some FieldType.int) 14 480 3 22 [.ref (L 899 0), .int v1, .int v2] L σ ow 0 (m_prove v1 v2 τ).1 σ') ∧ Rl wr0 σ' (m_prove v1 v2 τ).2 := by
  have kr := h.1
  have rc := h.2.2.2.1
  have sb := h.2.2.2.2.2.1
  have gn := h.2.2.2.2.2.2.1
  have si := sb.1
  have pi := rl_pi h
  have h924 : τ.1 924 0 ≤ 6 := by have := gn.2.1; have := rc.2.1; omega
  obtain ⟨q1, q2, q3, q4⟩ := p_prove h v1 v2
  have hz := wk0 (by decide) (q2.symm.trans hc)
  refine ⟨_, fun L ow => ?_, q4⟩
  have y9 := y_X8_prove (D := D) (cI := cI) (cZ := cZ) (cO := cO) (t0 := t0) (mi := mi) l hl9 L σ ow v1 v2 kr
  rw [hz, ← q3 hz] at y9
  exact y9
theorem oq_takes {D : va_G} {cI cZ cO : ClassId} {t0 mi : Nat} {l : Launch} (hl9 : l.stackTraces = false) {σ τ : St} (h : Rl wr0 σ τ) (v1 v2 : Int32) (hc : (m_takes v1 v2 τ).2.2.1 944 0 = nI 0) : ∃ σ' : St, (∀ (L : Lay) (ow : Nat → Prop), YI D cI cZ cO t0 mi l yX8_takes cX8_takes 3 (some FieldType.int) 14 480 3 22 [.ref (L 899 0), .int v1, .int v2] L σ ow 0 (m_takes v1 v2 τ).1 σ') ∧ Rl wr0 σ' (m_takes v1 v2 τ).2 := by
  have kr := h.1
  have rc := h.2.2.2.1
  have sb := h.2.2.2.2.2.1
  have gn := h.2.2.2.2.2.2.1
  have si := sb.1
  have pi := rl_pi h
  have h924 : τ.1 924 0 ≤ 6 := by have := gn.2.1; have := rc.2.1; omega
  obtain ⟨q1, q2, q3, q4⟩ := p_takes h v1 v2
  have hz := wk0 (by decide) (q2.symm.trans hc)
  refine ⟨_, fun L ow => ?_, q4⟩
  have y9 := y_X8_takes (D := D) (cI := cI) (cZ := cZ) (cO := cO) (t0 := t0) (mi := mi) l hl9 L σ ow v1 v2 kr
  rw [hz, ← q3 hz] at y9
  exact y9
theorem oq_plan {D : va_G} {cI cZ cO : ClassId} {t0 mi : Nat} {l : Launch} (hl9 : l.stackTraces = false) {σ τ : St} (h : Rl wr0 σ τ) (v1 v2 : Int32) (hc : (m_plan v1 v2 τ).2.2.1 944 0 = nI 0) : ∃ σ' : St, (∀ (L : Lay) (ow : Nat → Prop), YI D cI cZ cO t0 mi l yX8_plan cX8_plan 4 (some FieldType.int) 14 480 6 50 [.ref (L 899 0), .int v1, .int v2] L σ ow 0 (m_plan v1 v2 τ).1 σ') ∧ Rl wr0 σ' (m_plan v1 v2 τ).2 := by
  have kr := h.1
  have rc := h.2.2.2.1
  have sb := h.2.2.2.2.2.1
  have gn := h.2.2.2.2.2.2.1
  have si := sb.1
  have pi := rl_pi h
  have hq6 : σ.1 1002 2 ≤ 6 := rc.2.2.1
  have h924 : τ.1 924 0 ≤ 6 := by have := gn.2.1; have := rc.2.1; omega
  obtain ⟨q1, q2, q3, q4⟩ := p_plan h v1 v2
  have hz := wk0 (by decide) (q2.symm.trans hc)
  refine ⟨_, fun L ow => ?_, q4⟩
  have y9 := y_X8_plan (D := D) (cI := cI) (cZ := cZ) (cO := cO) (t0 := t0) (mi := mi) l hl9 L σ ow v1 v2 kr hq6
  rw [hz, ← q3 hz] at y9
  exact y9
theorem oq_night {D : va_G} {cI cZ cO : ClassId} {t0 mi : Nat} {l : Launch} {σ τ : St} (h : Rl wr0 σ τ) : ∃ σ' : St, (∀ (L : Lay) (ow : Nat → Prop), XI D cI cZ cO t0 mi l yX8_night cX8_night 4 (some FieldType.int) 14 480 1 10 [.ref (L 899 0)] L σ ow (m_night τ).1 σ') ∧ Rl wr0 σ' (m_night τ).2 := by
  have kr := h.1
  have ti := h.2.1
  have rc := h.2.2.2.1
  have sb := h.2.2.2.2.2.1
  have si := sb.1
  have pi := rl_pi h
  have qi := rl_qi h
  have qp := rl_qp h
  have hq6 : σ.1 1002 2 ≤ 6 := rc.2.2.1
  obtain ⟨q3, q4⟩ := p_night h
  refine ⟨_, fun L ow => ?_, q4⟩
  rw [← q3]
  exact x_X8_night l L σ ow kr ti qp hq6
theorem oq_foresees {D : va_G} {cI cZ cO : ClassId} {t0 mi : Nat} {l : Launch} {σ τ : St} (h : Rl wr0 σ τ) : ∃ σ' : St, (∀ (L : Lay) (ow : Nat → Prop), XI D cI cZ cO t0 mi l yX8_foresees cX8_foresees 2 (some FieldType.int) 14 490 1 10 [.ref (L 899 0)] L σ ow (m_foresees τ).1 σ') ∧ Rl wr0 σ' (m_foresees τ).2 := by
  have kr := h.1
  have ti := h.2.1
  have rc := h.2.2.2.1
  have sb := h.2.2.2.2.2.1
  have si := sb.1
  have pi := rl_pi h
  have qi := rl_qi h
  have qp := rl_qp h
  have hq6 : σ.1 1002 2 ≤ 6 := rc.2.2.1
  obtain ⟨q3, q4⟩ := p_foresees h
  refine ⟨_, fun L ow => ?_, q4⟩
  rw [← q3]
  exact x_X8_foresees l L σ ow kr ti qp hq6
theorem oq_lacks {D : va_G} {cI cZ cO : ClassId} {t0 mi : Nat} {l : Launch} (hl9 : l.stackTraces = false) {σ τ : St} (h : Rl wr0 σ τ) (v1 : Int32) (hc : (m_lacks v1 τ).2.2.1 944 0 = nI 0) : ∃ σ' : St, (∀ (L : Lay) (ow : Nat → Prop), YI D cI cZ cO t0 mi l yX8_lacks cX8_lacks 5 (some FieldType.int) 14 480 2 20 [.ref (L 899 0), .int v1] L σ ow 0 (m_lacks v1 τ).1 σ') ∧ Rl wr0 σ' (m_lacks v1 τ).2 := by
  have kr := h.1
  have ti := h.2.1
  have rc := h.2.2.2.1
  have sb := h.2.2.2.2.2.1
  have si := sb.1
  have pi := rl_pi h
  have qi := rl_qi h
  have qp := rl_qp h
  have hq6 : σ.1 1002 2 ≤ 6 := rc.2.2.1
  obtain ⟨q1, q2, q3, q4⟩ := p_lacks h v1
  have hz := wk0 (by decide) (q2.symm.trans hc)
  refine ⟨_, fun L ow => ?_, q4⟩
  have y9 := y_X8_lacks (D := D) (cI := cI) (cZ := cZ) (cO := cO) (t0 := t0) (mi := mi) l hl9 L σ ow v1 kr ti qp hq6
  rw [hz, ← q3 hz] at y9
  exact y9
theorem kn_idle {σ : St} {v1 : Int32} : (k_idle v1 σ).2.2.1 1002 = σ.1 1002 ∧ (k_idle v1 σ).2.2.1 1003 = σ.1 1003 := by
  unfold k_idle
  repeat' split
  all_goals exact ⟨rfl, rfl⟩
theorem oq_idle {D : va_G} {cI cZ cO : ClassId} {t0 mi : Nat} {l : Launch} (hl9 : l.stackTraces = false) {σ τ : St} (h : Rl wr0 σ τ) (v1 : Int32) (hc : (m_idle v1 τ).2.2.1 944 0 = nI 0) : ∃ σ' : St, (∀ (L : Lay) (ow : Nat → Prop), YI D cI cZ cO t0 mi l yX8_idle cX8_idle 2 (some FieldType.int) 6 90 1 6 [.ref (L 899 0), .int v1] L σ ow 0 (m_idle v1 τ).1 σ') ∧ Rl wr0 σ' (m_idle v1 τ).2 := by
  have kr := h.1
  have ci := kr.1
  have ti := h.2.1
  have gt := h.2.2.2.2.2.2.2.1
  have b900 := bound_900 h
  have h811 : σ.1 811 0 ≤ 1100000 := by have := gt.1; have := b900; omega
  have h812 : σ.1 812 0 ≤ 99 := ti.2.2
  have h900 : τ.1 900 0 ≤ 1100000 := by have := b900; omega
  have h901 := gt.2.2.2
  obtain ⟨q1, q2, q3, q4⟩ := p_idle h v1
  have hz := wk0 (by decide) (q2.symm.trans hc)
  refine ⟨_, fun L ow => ?_, q4⟩
  have y9 : YI D cI cZ cO t0 mi l yX8_idle cX8_idle 2 (some FieldType.int) 6 90 1 6 [.ref (L 899 0), .int v1] L σ ow (k_idle v1 σ).1 (k_idle v1 σ).2.1 (k_idle v1 σ).2.2 := yi_of_zi (z_X8_idle l hl9 L σ ow v1 h811 h812 ci) kn_idle
  rw [hz, ← q3 hz] at y9
  exact y9
theorem kn_calibrate {σ : St} {v1 v2 : Int32} : (k_calibrate v1 v2 σ).2.2.1 1002 = σ.1 1002 ∧ (k_calibrate v1 v2 σ).2.2.1 1003 = σ.1 1003 := by
  unfold k_calibrate
  repeat' split
  all_goals exact ⟨rfl, rfl⟩
theorem oq_calibrate {D : va_G} {cI cZ cO : ClassId} {t0 mi : Nat} {l : Launch} (hl9 : l.stackTraces = false) {σ τ : St} (h : Rl wr0 σ τ) (v1 v2 : Int32) (hc : (m_calibrate v1 v2 τ).2.2.1 944 0 = nI 0) : ∃ σ' : St, (∀ (L : Lay) (ow : Nat → Prop), YI D cI cZ cO t0 mi l yX8_calibrate cX8_calibrate 4 (some FieldType.int) 7 142 2 12 [.ref (L 899 0), .int v1, .int v2] L σ ow 0 (m_calibrate v1 v2 τ).1 σ') ∧ Rl wr0 σ' (m_calibrate v1 v2 τ).2 := by
  have kr := h.1
  have ci := kr.1
  obtain ⟨q1, q2, q3, q4⟩ := p_calibrate h v1 v2
  have hz := wk0 (by decide) (q2.symm.trans hc)
  refine ⟨_, fun L ow => ?_, q4⟩
  have y9 : YI D cI cZ cO t0 mi l yX8_calibrate cX8_calibrate 4 (some FieldType.int) 7 142 2 12 [.ref (L 899 0), .int v1, .int v2] L σ ow (k_calibrate v1 v2 σ).1 (k_calibrate v1 v2 σ).2.1 (k_calibrate v1 v2 σ).2.2 := yi_of_zi (z_X8_calibrate l hl9 L σ ow v1 v2 ci) kn_calibrate
  rw [hz, ← q3 hz] at y9
  exact y9
theorem oq_drawing {D : va_G} {cI cZ cO : ClassId} {t0 mi : Nat} {l : Launch} (hl9 : l.stackTraces = false) {σ τ : St} (h : Rl wr0 σ τ) (hc : (m_drawing τ).2.2.1 944 0 = nI 0) : ∃ σ' : St, (∀ (L : Lay) (ow : Nat → Prop), YI D cI cZ cO t0 mi l yX8_drawing cX8_drawing 1 (some FieldType.int) 10 300 8 200 [.ref (L 899 0)] L σ ow 0 (m_drawing τ).1 σ') ∧ Rl wr0 σ' (m_drawing τ).2 := by
  have kr := h.1
  have ci := kr.1
  have rc := h.2.2.2.1
  have gn := h.2.2.2.2.2.2.1
  have pi := rl_pi h
  have b900 := bound_900 h
  have h932 : τ.1 932 0 ≤ 4 := by have := gn.2.2.2.1; have := rc.2.2.2.2.1; omega
  have h904 : τ.1 904 0 ≤ 6 := pi.1
  obtain ⟨q1, q2, q3, q4⟩ := p_drawing h
  have hz := wk0 (by decide) (q2.symm.trans hc)
  refine ⟨_, fun L ow => ?_, q4⟩
  have y9 := y_X8_drawing (D := D) (cI := cI) (cZ := cZ) (cO := cO) (t0 := t0) (mi := mi) l hl9 L σ ow ci
  rw [hz, ← q3 hz] at y9
  exact y9
theorem kn_feature {σ : St} {v1 v2 v3 v4 v5 : Int32} : (k_feature v1 v2 v3 v4 v5 σ).2.2.1 1002 = σ.1 1002 ∧ (k_feature v1 v2 v3 v4 v5 σ).2.2.1 1003 = σ.1 1003 := by
  unfold k_feature
  repeat' split
  all_goals exact ⟨rfl, rfl⟩
theorem oq_feature {D : va_G} {cI cZ cO : ClassId} {t0 mi : Nat} {l : Launch} (hl9 : l.stackTraces = false) {σ τ : St} (h : Rl wr0 σ τ) (v1 v2 v3 v4 v5 : Int32) (hc : (m_feature v1 v2 v3 v4 v5 τ).2.2.1 944 0 = nI 0) : ∃ σ' : St, (∀ (L : Lay) (ow : Nat → Prop), YI D cI cZ cO t0 mi l yX8_feature cX8_feature 8 (some FieldType.int) 7 142 3 18 [.ref (L 899 0), .int v1, .int v2, .int v3, .int v4, .int v5] L σ ow 0 (m_feature v1 v2 v3 v4 v5 τ).1 σ') ∧ Rl wr0 σ' (m_feature v1 v2 v3 v4 v5 τ).2 := by
  have kr := h.1
  have ci := kr.1
  have rc := h.2.2.2.1
  have rb := h.2.2.2.2.1
  have sb := h.2.2.2.2.2.1
  have gn := h.2.2.2.2.2.2.1
  have h5 := rb.1
  have h932 : τ.1 932 0 ≤ 4 := by have := gn.2.2.2.1; have := rc.2.2.2.2.1; omega
  have h931 := sb.2.2.2.1
  obtain ⟨q1, q2, q3, q4⟩ := p_feature h v1 v2 v3 v4 v5
  have hz := wk0 (by decide) (q2.symm.trans hc)
  refine ⟨_, fun L ow => ?_, q4⟩
  have y9 : YI D cI cZ cO t0 mi l yX8_feature cX8_feature 8 (some FieldType.int) 7 142 3 18 [.ref (L 899 0), .int v1, .int v2, .int v3, .int v4, .int v5] L σ ow (k_feature v1 v2 v3 v4 v5 σ).1 (k_feature v1 v2 v3 v4 v5 σ).2.1 (k_feature v1 v2 v3 v4 v5 σ).2.2 := yi_of_zi (z_X8_feature l hl9 L σ ow v1 v2 v3 v4 v5 h5 ci) kn_feature
  rw [hz, ← q3 hz] at y9
  exact y9
theorem kn_allow {σ : St} {v1 v2 v3 v4 : Int32} : (k_allow v1 v2 v3 v4 σ).2.2.1 1002 = σ.1 1002 ∧ (k_allow v1 v2 v3 v4 σ).2.2.1 1003 = σ.1 1003 := by
  unfold k_allow
  repeat' split
  all_goals exact ⟨rfl, rfl⟩
theorem oq_allow {D : va_G} {cI cZ cO : ClassId} {t0 mi : Nat} {l : Launch} (hl9 : l.stackTraces = false) {σ τ : St} (h : Rl wr0 σ τ) (v1 v2 v3 v4 : Int32) (hc : (m_allow v1 v2 v3 v4 τ).2.2.1 944 0 = nI 0) : ∃ σ' : St, (∀ (L : Lay) (ow : Nat → Prop), YI D cI cZ cO t0 mi l yX8_allow cX8_allow 6 (some FieldType.int) 7 142 2 12 [.ref (L 899 0), .int v1, .int v2, .int v3, .int v4] L σ ow 0 (m_allow v1 v2 v3 v4 τ).1 σ') ∧ Rl wr0 σ' (m_allow v1 v2 v3 v4 τ).2 := by
  have kr := h.1
  have ci := kr.1
  have rc := h.2.2.2.1
  have rb := h.2.2.2.2.1
  have sb := h.2.2.2.2.2.1
  have gn := h.2.2.2.2.2.2.1
  have h5 := rb.1
  have h932 : τ.1 932 0 ≤ 4 := by have := gn.2.2.2.1; have := rc.2.2.2.2.1; omega
  have h931 := sb.2.2.2.1
  obtain ⟨q1, q2, q3, q4⟩ := p_allow h v1 v2 v3 v4
  have hz := wk0 (by decide) (q2.symm.trans hc)
  refine ⟨_, fun L ow => ?_, q4⟩
  have y9 : YI D cI cZ cO t0 mi l yX8_allow cX8_allow 6 (some FieldType.int) 7 142 2 12 [.ref (L 899 0), .int v1, .int v2, .int v3, .int v4] L σ ow (k_allow v1 v2 v3 v4 σ).1 (k_allow v1 v2 v3 v4 σ).2.1 (k_allow v1 v2 v3 v4 σ).2.2 := yi_of_zi (z_X8_allow l hl9 L σ ow v1 v2 v3 v4 h5 ci) kn_allow
  rw [hz, ← q3 hz] at y9
  exact y9
theorem oq_judge {D : va_G} {cI cZ cO : ClassId} {t0 mi : Nat} {l : Launch} (hl9 : l.stackTraces = false) {σ τ : St} (h : Rl wr0 σ τ) (v1 v2 v3 : Int32) (hc : (m_judge v1 v2 v3 τ).2.2.1 944 0 = nI 0) : ∃ σ' : St, (∀ (L : Lay) (ow : Nat → Prop), YI D cI cZ cO t0 mi l yX8_judge cX8_judge 11 (some FieldType.int) 10 300 10 200 [.ref (L 899 0), .int v1, .int v2, .int v3] L σ ow 0 (m_judge v1 v2 v3 τ).1 σ') ∧ Rl wr0 σ' (m_judge v1 v2 v3 τ).2 := by
  have kr := h.1
  have ci := kr.1
  have rc := h.2.2.2.1
  have rb := h.2.2.2.2.1
  have sb := h.2.2.2.2.2.1
  have gn := h.2.2.2.2.2.2.1
  have si := sb.1
  have pi := rl_pi h
  have b900 := bound_900 h
  have h5 := rb.1
  have h506 : ∀ k, σ.1 506 k ≤ 999000 := fun k => by have := rb.2.2.2.1 k; have := rc.2.2.2.2.2.1; omega
  have hcl := rb.2.2.2.2.1
  have hpl : ∀ k i, σ.2.2.1 4 k i < 100000 := fun k i => by have := rb.2.2.2.2.2 k i; omega
  have h914 : τ.1 914 0 ≤ 16 := si.2.2.2.2.1
  have h924 : τ.1 924 0 ≤ 6 := by have := gn.2.1; have := rc.2.1; omega
  have h932 : τ.1 932 0 ≤ 4 := by have := gn.2.2.2.1; have := rc.2.2.2.2.1; omega
  have h934 : τ.1 934 0 ≤ 30 := by have := gn.2.2.2.2.1; have := rc.2.2.2.2.2.1; omega
  have h904 : τ.1 904 0 ≤ 6 := pi.1
  have h931 := sb.2.2.2.1
  have h927 := sb.2.2.2.2.2.2.1
  have h930 := sb.2.2.2.2.2.2.2.1
  have hxy := sb.2.2.2.2.2.2.2.2.1
  have hcut : ∀ i, i < 864 → τ.2.2.2 917 0 i = (-1) ∨ ix (τ.2.2.2 917 0 i) 16 := fun i hi => by
    rcases sb.2.2.2.2.2.2.2.2.2.1 i hi with z | z | z
    · exact Or.inl z
    · exact Or.inr ⟨z.1, by have := z.2; have := h914; omega⟩
    · exact Or.inr (by rw [z.2]; exact ⟨by decide, by decide⟩)
  obtain ⟨q1, q2, q3, q4⟩ := p_judge h v1 v2 v3
  have hz := wk0 (by decide) (q2.symm.trans hc)
  refine ⟨_, fun L ow => ?_, q4⟩
  have y9 := y_X8_judge (D := D) (cI := cI) (cZ := cZ) (cO := cO) (t0 := t0) (mi := mi) l hl9 L σ ow v1 v2 v3 ci h5 h506 hcl hpl
  rw [hz, ← q3 hz] at y9
  exact y9
theorem kn_correct {σ : St} {v1 : Int32} : (k_correct v1 σ).2.2.1 1002 = σ.1 1002 ∧ (k_correct v1 σ).2.2.1 1003 = σ.1 1003 := by
  unfold k_correct k_corr
  repeat' split
  all_goals exact ⟨rfl, rfl⟩
theorem oq_correct {D : va_G} {cI cZ cO : ClassId} {t0 mi : Nat} {l : Launch} (hl9 : l.stackTraces = false) {σ τ : St} (h : Rl wr0 σ τ) (v1 : Int32) (hc : (m_correct v1 τ).2.2.1 944 0 = nI 0) : ∃ σ' : St, (∀ (L : Lay) (ow : Nat → Prop), YI D cI cZ cO t0 mi l yX8_correct cX8_correct 2 (some FieldType.int) 7 142 1 6 [.ref (L 899 0), .int v1] L σ ow 0 (m_correct v1 τ).1 σ') ∧ Rl wr0 σ' (m_correct v1 τ).2 := by
  have kr := h.1
  have ci := kr.1
  have rc := h.2.2.2.1
  have rb := h.2.2.2.2.1
  have sb := h.2.2.2.2.2.1
  have gn := h.2.2.2.2.2.2.1
  have si := sb.1
  have h506b : ∀ k, σ.1 506 k < 1000000 := fun k => by have := rb.2.2.2.1 k; have := rc.2.2.2.2.2.1; omega
  have h914 : τ.1 914 0 ≤ 16 := si.2.2.2.2.1
  have h934 : τ.1 934 0 ≤ 30 := by have := gn.2.2.2.2.1; have := rc.2.2.2.2.2.1; omega
  have h913 : ∀ k, τ.2.2.1 913 0 k < 1000000 := fun k => by have := sb.2.2.2.2.1 k; have := h934; omega
  obtain ⟨q1, q2, q3, q4⟩ := p_correct h v1
  have hz := wk0 (by decide) (q2.symm.trans hc)
  refine ⟨_, fun L ow => ?_, q4⟩
  have y9 : YI D cI cZ cO t0 mi l yX8_correct cX8_correct 2 (some FieldType.int) 7 142 1 6 [.ref (L 899 0), .int v1] L σ ow (k_correct v1 σ).1 (k_correct v1 σ).2.1 (k_correct v1 σ).2.2 := yi_of_zi (z_X8_correct l hl9 L σ ow v1 h506b ci) kn_correct
  rw [hz, ← q3 hz] at y9
  exact y9
theorem oq_minute {D : va_G} {cI cZ cO : ClassId} {t0 mi : Nat} {l : Launch} {σ τ : St} (h : Rl wr0 σ τ) : ∀ (L : Lay) (ow : Nat → Prop), XI D cI cZ cO t0 mi l yX8_minute cX8_minute 1 (some FieldType.int) 0 0 0 0 [.ref (L 899 0)] L σ ow (nI (τ.1 900 0)) σ := by
  have kr := h.1
  have ci := kr.1
  intro L ow
  rw [← (p_minute h).1]
  exact xi_of_rm (c_X8_minute l L σ ow ci)
theorem oq_warmth {D : va_G} {cI cZ cO : ClassId} {t0 mi : Nat} {l : Launch} {σ τ : St} (h : Rl wr0 σ τ) : ∀ (L : Lay) (ow : Nat → Prop), XI D cI cZ cO t0 mi l yX8_warmth cX8_warmth 1 (some FieldType.int) 0 0 0 0 [.ref (L 899 0)] L σ ow (nI (τ.1 901 0)) σ := by
  have kr := h.1
  have ci := kr.1
  intro L ow
  rw [← (p_minute h).2]
  exact xi_of_rm (c_X8_warmth l L σ ow ci)
theorem kn_ofTool {σ : St} {v1 v2 : Int32} : (k_ofTool v1 v2 σ).2.2.1 1002 = σ.1 1002 ∧ (k_ofTool v1 v2 σ).2.2.1 1003 = σ.1 1003 := by
  unfold k_ofTool
  repeat' split
  all_goals exact ⟨rfl, rfl⟩
theorem oq_ofTool {D : va_G} {cI cZ cO : ClassId} {t0 mi : Nat} {l : Launch} (hl9 : l.stackTraces = false) {σ τ : St} (h : Rl wr0 σ τ) (v1 v2 : Int32) (hc : (m_ofTool v1 v2 τ).2.2.1 944 0 = nI 0) : ∃ σ' : St, (∀ (L : Lay) (ow : Nat → Prop), YI D cI cZ cO t0 mi l yX8_ofTool cX8_ofTool 4 (some FieldType.int) 7 142 2 12 [.ref (L 899 0), .int v1, .int v2] L σ ow 0 (m_ofTool v1 v2 τ).1 σ') ∧ Rl wr0 σ' (m_ofTool v1 v2 τ).2 := by
  have kr := h.1
  have ci := kr.1
  have sb := h.2.2.2.2.2.1
  have si := sb.1
  have h914 : τ.1 914 0 ≤ 16 := si.2.2.2.2.1
  obtain ⟨q1, q2, q3, q4⟩ := p_ofTool h v1 v2
  have hz := wk0 (by decide) (q2.symm.trans hc)
  refine ⟨_, fun L ow => ?_, q4⟩
  have y9 : YI D cI cZ cO t0 mi l yX8_ofTool cX8_ofTool 4 (some FieldType.int) 7 142 2 12 [.ref (L 899 0), .int v1, .int v2] L σ ow (k_ofTool v1 v2 σ).1 (k_ofTool v1 v2 σ).2.1 (k_ofTool v1 v2 σ).2.2 := yi_of_zi (z_X8_ofTool l hl9 L σ ow v1 v2 ci) kn_ofTool
  rw [hz, ← q3 hz] at y9
  exact y9
theorem kn_ofCell {σ : St} {v1 v2 v3 v4 : Int32} : (k_ofCell v1 v2 v3 v4 σ).2.2.1 1002 = σ.1 1002 ∧ (k_ofCell v1 v2 v3 v4 σ).2.2.1 1003 = σ.1 1003 := by
  unfold k_ofCell
  repeat' split
  all_goals exact ⟨rfl, rfl⟩
theorem oq_ofCell {D : va_G} {cI cZ cO : ClassId} {t0 mi : Nat} {l : Launch} (hl9 : l.stackTraces = false) {σ τ : St} (h : Rl wr0 σ τ) (v1 v2 v3 v4 : Int32) (hc : (m_ofCell v1 v2 v3 v4 τ).2.2.1 944 0 = nI 0) : ∃ σ' : St, (∀ (L : Lay) (ow : Nat → Prop), YI D cI cZ cO t0 mi l yX8_ofCell cX8_ofCell 7 (some FieldType.int) 7 142 3 18 [.ref (L 899 0), .int v1, .int v2, .int v3, .int v4] L σ ow 0 (m_ofCell v1 v2 v3 v4 τ).1 σ') ∧ Rl wr0 σ' (m_ofCell v1 v2 v3 v4 τ).2 := by
  have kr := h.1
  have ci := kr.1
  have rc := h.2.2.2.1
  have gn := h.2.2.2.2.2.2.1
  have h924 : τ.1 924 0 ≤ 6 := by have := gn.2.1; have := rc.2.1; omega
  obtain ⟨q1, q2, q3, q4⟩ := p_ofCell h v1 v2 v3 v4
  have hz := wk0 (by decide) (q2.symm.trans hc)
  refine ⟨_, fun L ow => ?_, q4⟩
  have y9 : YI D cI cZ cO t0 mi l yX8_ofCell cX8_ofCell 7 (some FieldType.int) 7 142 3 18 [.ref (L 899 0), .int v1, .int v2, .int v3, .int v4] L σ ow (k_ofCell v1 v2 v3 v4 σ).1 (k_ofCell v1 v2 v3 v4 σ).2.1 (k_ofCell v1 v2 v3 v4 σ).2.2 := yi_of_zi (z_X8_ofCell l hl9 L σ ow v1 v2 v3 v4 ci) kn_ofCell
  rw [hz, ← q3 hz] at y9
  exact y9
theorem kn_ofPallet {σ : St} {v1 v2 : Int32} : (k_ofPallet v1 v2 σ).2.2.1 1002 = σ.1 1002 ∧ (k_ofPallet v1 v2 σ).2.2.1 1003 = σ.1 1003 := by
  unfold k_ofPallet
  repeat' split
  all_goals exact ⟨rfl, rfl⟩
theorem oq_ofPallet {D : va_G} {cI cZ cO : ClassId} {t0 mi : Nat} {l : Launch} (hl9 : l.stackTraces = false) {σ τ : St} (h : Rl wr0 σ τ) (v1 v2 : Int32) (hc : (m_ofPallet v1 v2 τ).2.2.1 944 0 = nI 0) : ∃ σ' : St, (∀ (L : Lay) (ow : Nat → Prop), YI D cI cZ cO t0 mi l yX8_ofPallet cX8_ofPallet 4 (some FieldType.int) 7 143 2 12 [.ref (L 899 0), .int v1, .int v2] L σ ow 0 (m_ofPallet v1 v2 τ).1 σ') ∧ Rl wr0 σ' (m_ofPallet v1 v2 τ).2 := by
  have kr := h.1
  have ci := kr.1
  have rc := h.2.2.2.1
  have sb := h.2.2.2.2.2.1
  have gn := h.2.2.2.2.2.2.1
  have qi := rl_qi h
  have h924 : τ.1 924 0 ≤ 6 := by have := gn.2.1; have := rc.2.1; omega
  have h926 : τ.1 926 0 ≤ 6 := qi.1
  have h925 := sb.2.2.2.2.2.1
  obtain ⟨q1, q2, q3, q4⟩ := p_ofPallet h v1 v2
  have hz := wk0 (by decide) (q2.symm.trans hc)
  refine ⟨_, fun L ow => ?_, q4⟩
  have y9 : YI D cI cZ cO t0 mi l yX8_ofPallet cX8_ofPallet 4 (some FieldType.int) 7 143 2 12 [.ref (L 899 0), .int v1, .int v2] L σ ow (k_ofPallet v1 v2 σ).1 (k_ofPallet v1 v2 σ).2.1 (k_ofPallet v1 v2 σ).2.2 := yi_of_zi (z_X8_ofPallet l hl9 L σ ow v1 v2 ci) kn_ofPallet
  rw [hz, ← q3 hz] at y9
  exact y9
theorem kn_ofPaper {σ : St} {v1 v2 : Int32} : (k_ofPaper v1 v2 σ).2.2.1 1002 = σ.1 1002 ∧ (k_ofPaper v1 v2 σ).2.2.1 1003 = σ.1 1003 := by
  unfold k_ofPaper
  repeat' split
  all_goals exact ⟨rfl, rfl⟩
theorem oq_ofPaper {D : va_G} {cI cZ cO : ClassId} {t0 mi : Nat} {l : Launch} (hl9 : l.stackTraces = false) {σ τ : St} (h : Rl wr0 σ τ) (v1 v2 : Int32) (hc : (m_ofPaper v1 v2 τ).2.2.1 944 0 = nI 0) : ∃ σ' : St, (∀ (L : Lay) (ow : Nat → Prop), YI D cI cZ cO t0 mi l yX8_ofPaper cX8_ofPaper 4 (some FieldType.int) 7 142 2 12 [.ref (L 899 0), .int v1, .int v2] L σ ow 0 (m_ofPaper v1 v2 τ).1 σ') ∧ Rl wr0 σ' (m_ofPaper v1 v2 τ).2 := by
  have kr := h.1
  have ci := kr.1
  have rc := h.2.2.2.1
  have rb := h.2.2.2.2.1
  have gn := h.2.2.2.2.2.2.1
  have h306 := rb.2.2.1
  have h934 : τ.1 934 0 ≤ 30 := by have := gn.2.2.2.2.1; have := rc.2.2.2.2.2.1; omega
  obtain ⟨q1, q2, q3, q4⟩ := p_ofPaper h v1 v2
  have hz := wk0 (by decide) (q2.symm.trans hc)
  refine ⟨_, fun L ow => ?_, q4⟩
  have y9 : YI D cI cZ cO t0 mi l yX8_ofPaper cX8_ofPaper 4 (some FieldType.int) 7 142 2 12 [.ref (L 899 0), .int v1, .int v2] L σ ow (k_ofPaper v1 v2 σ).1 (k_ofPaper v1 v2 σ).2.1 (k_ofPaper v1 v2 σ).2.2 := yi_of_zi (z_X8_ofPaper l hl9 L σ ow v1 v2 h306 ci) kn_ofPaper
  rw [hz, ← q3 hz] at y9
  exact y9
theorem kn_judgeAnew {σ : St} {v1 : Int32} : (k_judgeAnew v1 σ).2.2.1 1002 = σ.1 1002 ∧ (k_judgeAnew v1 σ).2.2.1 1003 = σ.1 1003 := by
  unfold k_judgeAnew
  repeat' split
  all_goals exact ⟨rfl, rfl⟩
theorem oq_judgeAnew {D : va_G} {cI cZ cO : ClassId} {t0 mi : Nat} {l : Launch} (hl9 : l.stackTraces = false) {σ τ : St} (h : Rl wr0 σ τ) (v1 : Int32) (hc : (m_judgeAnew v1 (fun q => σ.1 306 q) τ).2.2.1 944 0 = nI 0) : ∃ σ' : St, (∀ (L : Lay) (ow : Nat → Prop), YI D cI cZ cO t0 mi l yX8_judgeAnew cX8_judgeAnew 2 (some FieldType.int) 7 142 1 6 [.ref (L 899 0), .int v1] L σ ow 0 (m_judgeAnew v1 (fun q => σ.1 306 q) τ).1 σ') ∧ Rl wr0 σ' (m_judgeAnew v1 (fun q => σ.1 306 q) τ).2 := by
  have kr := h.1
  have ci := kr.1
  have rc := h.2.2.2.1
  have rb := h.2.2.2.2.1
  have gn := h.2.2.2.2.2.2.1
  have h306 := rb.2.2.1
  have h934 : τ.1 934 0 ≤ 30 := by have := gn.2.2.2.2.1; have := rc.2.2.2.2.2.1; omega
  have hnf : ∀ k, k < τ.1 934 0 → σ.1 306 k ≤ 6 ∧ τ.2.2.2 933 0 (18 * k + 17) = nI (σ.1 306 k) := fun k hk => ⟨h306 k, (h.2.2.2.2.2.2.2.2.2.2.2.2.2.2.2.1.1 k (by have := gn.2.2.2.2.1; omega)).2.2.2.2.2.1⟩
  obtain ⟨q1, q2, q3, q4⟩ := p_judgeAnew h v1
  have hz := wk0 (by decide) (q2.symm.trans hc)
  refine ⟨_, fun L ow => ?_, q4⟩
  have y9 : YI D cI cZ cO t0 mi l yX8_judgeAnew cX8_judgeAnew 2 (some FieldType.int) 7 142 1 6 [.ref (L 899 0), .int v1] L σ ow (k_judgeAnew v1 σ).1 (k_judgeAnew v1 σ).2.1 (k_judgeAnew v1 σ).2.2 := yi_of_zi (z_X8_judgeAnew l hl9 L σ ow v1 h306 ci) kn_judgeAnew
  rw [hz, ← q3 hz] at y9
  exact y9
