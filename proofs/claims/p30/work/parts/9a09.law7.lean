theorem c_L_blockB {D : va_G} {cI cZ cO : ClassId} {dom : Nat → Nat → Prop} (l : Launch) (L : Lay) (σ : St) (ow : Nat → Prop) (kr ku km tp fr : Nat) (t9 : Int32) (hd : ∀ z ∈ ([(900, kr), (901, 0), (902, ku), (903, km), (904, 0)] : List (Nat × Nat)), dom z.1 z.2) (hfr : fr < 100000) (hli0 : LI kr ku km σ) (hg : GI σ) (hk : KI (tp + 1) σ) (h6 : ix (σ.2.2.2 904 0 6) 80000) (h7 : ix (σ.2.2.2 904 0 7) 601) : RM D cI cZ cO dom l yL_block cL_block 12 ((some FieldType.int)) 3 86 [.ref (L 900 kr), .ref (L 901 0), .ref (L 902 ku), .ref (L 903 km), .ref (L 904 0), .int (nI fr), .int t9] L σ ow ((h_bk kr ku km tp fr t9 σ).1) ((h_bk kr ku km tp fr t9 σ).2) := by
  rw [← h_blk_eq hg hk]
  exact c_L_block l L σ ow kr ku km tp fr t9 hd hfr hli0 hg hk h6 h7
/-- a run's row at its start -/
def h_i0 (k : Nat) : Int32 := if ¬ k = 2 then (if ¬ k = 5 then nI 0 else (-1)) else nI 9
def h_ini : Nat → St → St
  | 0, σ => σ
  | n + 1, σ => wB (h_ini n σ) 904 0 n (h_i0 n)
theorem h_ini_A (σ : St) : ∀ n, (h_ini n σ).2.2.1 = σ.2.2.1
  | 0 => rfl
  | n + 1 => h_ini_A σ n
theorem h_ini_F (σ : St) {F : Nat} (h : F ≠ 904) : ∀ n, (h_ini n σ).2.2.2 F = σ.2.2.2 F
  | 0 => rfl
  | n + 1 => (show (wB (h_ini n σ) 904 0 n (h_i0 n)).2.2.2 F = (h_ini n σ).2.2.2 F from if_neg h).trans (h_ini_F σ h n)
theorem h_ini_k (σ : St) : ∀ n i, i < n → (h_ini n σ).2.2.2 904 0 i = h_i0 i
  | 0, i, h => absurd h (Nat.not_lt_zero _)
  | n + 1, i, h => by
    by_cases e : i = n
    · subst e
      show (wB (h_ini i σ) 904 0 i (h_i0 i)).2.2.2 904 0 i = _
      rw [wB_s, up1_s]
    · exact (e_ne e).trans (h_ini_k σ n i (by omega))
/-- what holds of the rows ahead of a run -/
def LJ (kr ku km : Nat) (σ : St) : Prop := (36 ≤ σ.2.2.1 902 ku 0 ∧ σ.2.2.1 902 ku 0 < 1000) ∧ (37 ≤ σ.2.2.1 903 km 0 ∧ σ.2.2.1 903 km 0 < 1000) ∧ (∀ i, σ.2.2.1 900 kr i < 2 ^ 62) ∧ (∀ k, k < 4 → ix (σ.2.2.2 902 ku (9 * k + 1)) 600) ∧ (∀ k, k < 4 → ix (σ.2.2.2 902 ku (9 * k + 2)) 1000) ∧ (∀ k, k < 4 → ix (σ.2.2.2 902 ku (9 * k + 3) + nI 200) 401) ∧ ix (σ.2.2.2 903 km 1) 100 ∧ ∀ x, x < 12 → ix (σ.2.2.2 903 km (4 + x) + nI 50) 101
theorem LI.lj {kr ku km : Nat} {σ : St} (h : LI kr ku km σ) : LJ kr ku km σ := ⟨h.1, h.2.1, h.2.2.2.2.2.2⟩
def h_st (pr : Nat) (σ : St) : St := wB (h_ini 20 σ) 904 0 13 (nI pr)
theorem st_j (pr : Nat) (σ : St) {j : Nat} (h : j < 20) (h2 : j ≠ 13) : (h_st pr σ).2.2.2 904 0 j = h_i0 j := (e_ne h2).trans (h_ini_k σ 20 j h)
theorem st_F (pr : Nat) (σ : St) {F : Nat} (h : F ≠ 904) : (h_st pr σ).2.2.2 F = σ.2.2.2 F := (show (wB (h_ini 20 σ) 904 0 13 (nI pr)).2.2.2 F = (h_ini 20 σ).2.2.2 F from if_neg h).trans (h_ini_F σ h 20)
theorem st_A (pr : Nat) (σ : St) : (h_st pr σ).2.2.1 = σ.2.2.1 := h_ini_A σ 20
theorem LI_st {kr ku km pr : Nat} {σ : St} (h : LJ kr ku km σ) : LI kr ku km (h_st pr σ) := by
  unfold LI
  rw [st_A, st_F pr σ (F := 902) (by decide), st_F pr σ (F := 903) (by decide), st_j pr σ (j := 0) (by decide) (by decide), st_j pr σ (j := 1) (by decide) (by decide), st_j pr σ (j := 2) (by decide) (by decide), st_j pr σ (j := 5) (by decide) (by decide)]
  exact ⟨h.1, h.2.1, by decide, by decide, by decide, fun z => absurd z (by decide), h.2.2⟩
theorem KI_st {pr : Nat} {σ : St} (hpr : pr < 3) : KI 1 (h_st pr σ) := by
  refine ⟨by decide, by rw [st_j pr σ (by decide) (by decide)]; decide, fun t ht => ?_, fun t ht _ => ⟨by omega, by rw [st_j pr σ (by decide) (by decide)]; decide⟩⟩
  obtain rfl : t = 0 := by omega
  have e : (h_st pr σ).2.2.2 904 0 13 = nI pr := by unfold h_st; rw [wB_s, up1_s]
  have e2 : (h_st pr σ).2.2.2 904 0 16 = nI 0 := by rw [st_j pr σ (by decide) (by decide)]; rfl
  have e3 : pI (h_st pr σ) 0 = 0 := by unfold pI; rw [show 16 + 0 = 16 from rfl, e2]; rfl
  have e4 : pP (h_st pr σ) 0 = pr := by unfold pP; rw [show 13 + 0 = 13 from rfl, e, tn_nI (by omega)]
  rw [e3, e4, show 13 + 0 = 13 from rfl, show 16 + 0 = 16 from rfl, e, e2]
  exact ⟨(ix_nI (by omega)).mpr hpr, by omega, by decide, Nat.zero_le _⟩
/-- a run -/
def h_rl (kr ku km fr : Nat) (t9 : Int32) : Nat → St → Int32 × St
  | 0, σ => (nI 0, σ)
  | f + 1, σ => if σ.2.2.2 904 0 12 < 0 then (nI 0, σ) else if (h_bk kr ku km (tn (σ.2.2.2 904 0 12)) fr t9 σ).1 = 0 then h_rl kr ku km fr t9 f (h_bk kr ku km (tn (σ.2.2.2 904 0 12)) fr t9 σ).2 else h_bk kr ku km (tn (σ.2.2.2 904 0 12)) fr t9 σ
def h_run (kr ku km pr fr : Nat) (t9 : Int32) (σ : St) : Int32 × St := h_rl kr ku km fr t9 2000 (h_st pr σ)
theorem k12_0 {d : Nat} {σ : St} (h : KI d σ) : σ.2.2.2 904 0 12 < 0 ↔ d = 0 := by
  have h3 := h.1
  rw [h.2.1]
  rcases (by omega : d = 0 ∨ d = 1 ∨ d = 2 ∨ d = 3) with rfl | rfl | rfl | rfl <;> decide
theorem k12_t {tp : Nat} {σ : St} (h : KI (tp + 1) σ) : tn (σ.2.2.2 904 0 12) = tp := by
  have h3 := h.1
  rw [k12 h, tn_nI (by omega)]
set_option maxRecDepth 100000 in
set_option maxHeartbeats 4000000 in
theorem c_L_run {D : va_G} {cI cZ cO : ClassId} {dom : Nat → Nat → Prop} (l : Launch) (L : Lay) (σ : St) (ow : Nat → Prop) (kr ku km pr fr : Nat) (t9 : Int32) (hd : ∀ z ∈ ([(900, kr), (901, 0), (902, ku), (903, km), (904, 0)] : List (Nat × Nat)), dom z.1 z.2) (hpr : pr < 3) (hfr : fr < 100000) (hlj : LJ kr ku km σ) (hg0 : GI σ) : RM D cI cZ cO dom l yL_run cL_run 9 ((some FieldType.int)) 4 117 [.ref (L 900 kr), .ref (L 901 0), .ref (L 902 ku), .ref (L 903 km), .ref (L 904 0), .int (nI pr), .int (nI fr), .int t9] L σ ow ((h_run kr ku km pr fr t9 σ).1) ((h_run kr ku km pr fr t9 σ).2) := by
  refine rm_of rfl (Nat.le_of_ble_eq_true rfl) ?_
  intro p e s m below meth c ls X hK hG hr hlocks hl
  have X : CallFix p m c cL_run 9 s _ TB RL := X
  have hx := X.1
  have hb := X.2.1
  have hS : va_S (AA ow s.heap.size) s.heap s.heap [] := va_S.rf
  have hA : ∀ q, ow q → AA ow s.heap.size q := fun _ h => Or.inl h
  have hl : lv_has ls 9 [(0, .ref (L 900 kr)), (1, .ref (L 901 0)), (2, .ref (L 902 ku)), (3, .ref (L 903 km)), (4, .ref (L 904 0)), (5, .int (nI pr)), (6, .int (nI fr)), (7, .int t9)] := hl
  refine lv_iconst (v := nI 0) hx hb dL_run_0 (by decide) ?_
  refine lv_istore (lv' := [(8, .int (nI 0)), (0, .ref (L 900 kr)), (1, .ref (L 901 0)), (2, .ref (L 902 ku)), (3, .ref (L 903 km)), (4, .ref (L 904 0)), (5, .int (nI pr)), (6, .int (nI fr)), (7, .int t9)]) hx hb dL_run_1 hl (by decide) rfl (fun ls hl => ?_)
  refine r_loop (ι := Nat) (fun (k9 : Nat) => [(0, .ref (L 900 kr)), (1, .ref (L 901 0)), (2, .ref (L 902 ku)), (3, .ref (L 903 km)), (4, .ref (L 904 0)), (5, .int (nI pr)), (6, .int (nI fr)), (7, .int t9), (8, .int (nI k9))]) (fun (k9 : Nat) => (h_ini k9 σ)) (fun (k9 : Nat) => 20 - k9) (fun (k9 : Nat) => k9 ≤ 20) 0 (Nat.zero_le _) hG hS (lv_sub hl [1, 2, 3, 4, 5, 6, 7, 8, 0] rfl) ?_
  rintro k9 hinv ih H locs ls hG hS hl
  have hG : PW D cI cZ cO dom L (h_ini k9 σ) ow H := hG
  have hl : lv_has ls 9 [(0, .ref (L 900 kr)), (1, .ref (L 901 0)), (2, .ref (L 902 ku)), (3, .ref (L 903 km)), (4, .ref (L 904 0)), (5, .int (nI pr)), (6, .int (nI fr)), (7, .int t9), (8, .int (nI k9))] := hl
  obtain hk9 := hinv
  refine lv_iload hx hb dL_run_3 (lv_at hl 8 rfl) ?_
  refine lv_bipush (v := nI 20) hx hb dL_run_5 (by decide) ?_
  refine r_icmp_geN (tgt := 43) hx hb dL_run_7 (by decide) (by omega) (by decide) (fun c_7 => ?_) (fun c_7 => ?_)
  · obtain rfl : k9 = 20 := by omega
    refine lv_aload hx hb dL_run_43 (lv_at hl 4 rfl) ?_
    refine lv_bipush (v := nI 13) hx hb dL_run_45 (by decide) ?_
    refine lv_iload hx hb dL_run_47 (lv_at hl 5 rfl) ?_
    refine as_904 X hK hG hS hA (hd _ (List.mem_of_getElem? (i := 4) rfl)) (i := 13) (by omega) dL_run_49 (fun H locs hG hS => ?_)
    refine lv_iconst (v := nI 0) hx hb dL_run_50 (by decide) ?_
    refine lv_istore (lv' := [(8, .int (nI 0)), (0, .ref (L 900 kr)), (1, .ref (L 901 0)), (2, .ref (L 902 ku)), (3, .ref (L 903 km)), (4, .ref (L 904 0)), (5, .int (nI pr)), (6, .int (nI fr)), (7, .int t9)]) hx hb dL_run_51 hl (by decide) rfl (fun ls hl => ?_)
    refine r_loop (ι := Int32 × Nat × Nat × St) (fun (⟨w9, d9, f9, σ9⟩ : Int32 × Nat × Nat × St) => [(0, .ref (L 900 kr)), (1, .ref (L 901 0)), (2, .ref (L 902 ku)), (3, .ref (L 903 km)), (4, .ref (L 904 0)), (5, .int (nI pr)), (6, .int (nI fr)), (7, .int t9), (8, .int w9)]) (fun (⟨w9, d9, f9, σ9⟩ : Int32 × Nat × Nat × St) => σ9) (fun (⟨w9, d9, f9, σ9⟩ : Int32 × Nat × Nat × St) => (if w9 = 0 then f9 else 0)) (fun (⟨w9, d9, f9, σ9⟩ : Int32 × Nat × Nat × St) => h_run kr ku km pr fr t9 σ = (if w9 = 0 then h_rl kr ku km fr t9 f9 σ9 else (w9, σ9)) ∧ (w9 = 0 → KI d9 σ9 ∧ 2 * (601 - tn (σ9.2.2.2 904 0 7)) + d9 + 1 ≤ f9) ∧ LI kr ku km σ9 ∧ GI σ9 ∧ ix (σ9.2.2.2 904 0 6) 80000 ∧ ix (σ9.2.2.2 904 0 7) 601 ∧ tn (σ9.2.2.2 904 0 6) ≤ 11 * tn (σ9.2.2.2 904 0 7)) ⟨nI 0, 1, 2000, h_st pr σ⟩ (⟨(if_pos rfl).symm, fun _ => ⟨KI_st hpr, by rw [st_j pr σ (by decide) (by decide)]; decide⟩, LI_st hlj, hg0.eq (st_F pr σ (by decide)), by rw [st_j pr σ (by decide) (by decide)]; decide, by rw [st_j pr σ (by decide) (by decide)]; decide, by rw [st_j pr σ (by decide) (by decide), st_j pr σ (by decide) (by decide)]; decide⟩) hG hS (lv_sub hl [1, 2, 3, 4, 5, 6, 7, 8, 0] rfl) ?_
    rintro ⟨w9, d9, f9, σ9⟩ hinv ih H locs ls hG hS hl
    have hG : PW D cI cZ cO dom L σ9 ow H := hG
    have hl : lv_has ls 9 [(0, .ref (L 900 kr)), (1, .ref (L 901 0)), (2, .ref (L 902 ku)), (3, .ref (L 903 km)), (4, .ref (L 904 0)), (5, .int (nI pr)), (6, .int (nI fr)), (7, .int t9), (8, .int w9)] := hl
    obtain ⟨hq, hkf, hs9, hg9, h69, h79, h679⟩ := hinv
    refine lv_aload hx hb dL_run_53 (lv_at hl 4 rfl) ?_
    refine lv_bipush (v := nI 12) hx hb dL_run_55 (by decide) ?_
    refine al_904 X hK hG (hd _ (List.mem_of_getElem? (i := 4) rfl)) (i := 12) (x := σ9.2.2.2 904 0 12) (by omega) rfl dL_run_57 ?_
    refine lv_if_lt (tgt := 84) hx hb dL_run_58 (by decide) (fun c_58 => ?_) (fun c_58 => ?_)
    · have hE : h_run kr ku km pr fr t9 σ = (w9, σ9) := by rw [hq]; first | exact if_neg c_63 | (by_cases c0 : w9 = 0; (have h8 := (hkf c0).2; obtain ⟨f1, rfl⟩ : ∃ f1, f9 = f1 + 1 := ⟨f9 - 1, by omega⟩; rw [if_pos c0, c0]; exact if_pos c_58); exact if_neg c0)
      refine lv_iload hx hb dL_run_84 (lv_at hl 8 rfl) ?_
      exact rm_ret hx hb hr hlocks hG hS (by rw [hE]) (by rw [hE]) rfl dL_run_86
    · refine lv_iload hx hb dL_run_61 (lv_at hl 8 rfl) ?_
      refine lv_if_ne (tgt := 84) hx hb dL_run_63 (by decide) (fun c_63 => ?_) (fun c_63 => ?_)
      · have hE : h_run kr ku km pr fr t9 σ = (w9, σ9) := by rw [hq]; first | exact if_neg c_63 | (by_cases c0 : w9 = 0; (have h8 := (hkf c0).2; obtain ⟨f1, rfl⟩ : ∃ f1, f9 = f1 + 1 := ⟨f9 - 1, by omega⟩; rw [if_pos c0, c0]; exact if_pos c_58); exact if_neg c0)
        refine lv_iload hx hb dL_run_84 (lv_at hl 8 rfl) ?_
        exact rm_ret hx hb hr hlocks hG hS (by rw [hE]) (by rw [hE]) rfl dL_run_86
      · have hkk := hkf c_63
        obtain ⟨tp, rfl⟩ : ∃ tp, d9 = tp + 1 := ⟨d9 - 1, by have := mt (k12_0 hkk.1).mpr c_58; omega⟩
        have hk9 := hkk.1
        obtain ⟨f1, rfl⟩ : ∃ f1, f9 = f1 + 1 := ⟨f9 - 1, by omega⟩
        refine lv_aload_n hx hb dL_run_66 rfl (lv_at hl 0 rfl) ?_
        refine lv_aload_n hx hb dL_run_67 rfl (lv_at hl 1 rfl) ?_
        refine lv_aload_n hx hb dL_run_68 rfl (lv_at hl 2 rfl) ?_
        refine lv_aload_n hx hb dL_run_69 rfl (lv_at hl 3 rfl) ?_
        refine lv_aload hx hb dL_run_70 (lv_at hl 4 rfl) ?_
        refine lv_iload hx hb dL_run_72 (lv_at hl 6 rfl) ?_
        refine lv_iload hx hb dL_run_74 (lv_at hl 7 rfl) ?_
        refine rm_callS X hK hG hS ysL_block ml_L_29 [.ref (L 900 kr), .ref (L 901 0), .ref (L 902 ku), .ref (L 903 km), .ref (L 904 0), .int (nI fr), .int t9] [] (c_L_blockB l L σ9 ow kr ku km tp fr t9 hd hfr hs9 hg9 hk9 h69 h79) rfl hl.1 rfl (Nat.le_of_ble_eq_true rfl) ⟨Nat.le_of_ble_eq_true rfl, Nat.le_of_ble_eq_true rfl⟩ ⟨Nat.zero_le _, Nat.zero_le _⟩ dL_run_76 (fun H locs hG hS => ?_)
        refine lv_istore (lv' := [(8, .int ((h_bk kr ku km tp fr t9 σ9).1)), (0, .ref (L 900 kr)), (1, .ref (L 901 0)), (2, .ref (L 902 ku)), (3, .ref (L 903 km)), (4, .ref (L 904 0)), (5, .int (nI pr)), (6, .int (nI fr)), (7, .int t9)]) hx hb dL_run_79 hl (by decide) rfl (fun ls hl => ?_)
        have hba := blk_all (fr := fr) (t9 := t9) hs9 hg9 hk9 h69 h79 h679
        obtain ⟨d8, hd8⟩ : ∃ d8, (h_bk kr ku km tp fr t9 σ9).1 = 0 → KI d8 (h_bk kr ku km tp fr t9 σ9).2 ∧ 2 * (601 - tn ((h_bk kr ku km tp fr t9 σ9).2.2.2.2 904 0 7)) + d8 < 2 * (601 - tn (σ9.2.2.2 904 0 7)) + (tp + 1) := by by_cases z : (h_bk kr ku km tp fr t9 σ9).1 = 0; (obtain ⟨d8, h8⟩ := hba.2.2.2.2.2 z; exact ⟨d8, fun _ => h8⟩); exact ⟨0, fun y => absurd y z⟩
        refine lv_goto (tgt := 53) hx hb dL_run_81 (by decide) ?_
        exact ih ⟨(h_bk kr ku km tp fr t9 σ9).1, d8, f1, (h_bk kr ku km tp fr t9 σ9).2⟩ (by show (if (h_bk kr ku km tp fr t9 σ9).1 = 0 then f1 else 0) < (if w9 = 0 then f1 + 1 else 0); rw [if_pos c_63]; split <;> omega) (⟨(by rw [hq, if_pos c_63]; show (if _ then _ else _) = _; rw [if_neg c_58, k12_t hk9]), fun z => ⟨(hd8 z).1, by have := (hd8 z).2; omega⟩, hba.1, hg9.eq hba.2.1, hba.2.2.1, hba.2.2.2.1, hba.2.2.2.2.1⟩) H locs ls hG hS (lv_sub hl [1, 2, 3, 4, 5, 6, 7, 8, 0] rfl)
  · refine lv_aload hx hb dL_run_10 (lv_at hl 4 rfl) ?_
    refine lv_iload hx hb dL_run_12 (lv_at hl 8 rfl) ?_
    refine r_cutH 36 [.int (h_i0 k9), .int (nI k9), .ref (L 904 0)] hG hS (fun H locs hG hS => ?_) (fun J_36 => ?_)
    · refine as_904 X hK hG hS hA (hd _ (List.mem_of_getElem? (i := 4) rfl)) (i := k9) (by omega) dL_run_36 (fun H locs hG hS => ?_)
      refine r_iincN (b := 1) (lv' := [(8, .int (nI (k9 + 1))), (0, .ref (L 900 kr)), (1, .ref (L 901 0)), (2, .ref (L 902 ku)), (3, .ref (L 903 km)), (4, .ref (L 904 0)), (5, .int (nI pr)), (6, .int (nI fr)), (7, .int t9)]) hx hb dL_run_37 hl (k := 8) rfl (by decide) (by decide) rfl (fun ls hl => ?_)
      refine lv_goto (tgt := 3) hx hb dL_run_40 (by decide) ?_
      exact ih (k9 + 1) (by show 20 - (k9 + 1) < 20 - k9; omega) (by show k9 + 1 ≤ 20; omega) H locs ls hG hS (lv_sub hl [1, 2, 3, 4, 5, 6, 7, 8, 0] rfl)
    · refine lv_iload hx hb dL_run_14 (lv_at hl 8 rfl) ?_
      refine lv_iconst (v := nI 2) hx hb dL_run_16 (by decide) ?_
      refine r_icmp_neN (tgt := 25) hx hb dL_run_17 (by decide) (by omega) (by decide) (fun c_17 => ?_) (fun c_17 => ?_)
      · refine lv_iload hx hb dL_run_25 (lv_at hl 8 rfl) ?_
        refine lv_iconst (v := nI 5) hx hb dL_run_27 (by decide) ?_
        refine r_icmp_neN (tgt := 35) hx hb dL_run_28 (by decide) (by omega) (by decide) (fun c_28 => ?_) (fun c_28 => ?_)
        · refine lv_iconst (v := nI 0) hx hb dL_run_35 (by decide) ?_
          exact r_top (by unfold h_i0; rw [if_pos c_17, if_pos c_28]) (J_36 _ _ hG hS)
        · refine lv_iconst (v := (-1)) hx hb dL_run_31 (by decide) ?_
          refine lv_goto (tgt := 36) hx hb dL_run_32 (by decide) ?_
          exact r_top (by unfold h_i0; rw [if_pos c_17, if_neg (not_not_intro9 c_28)]) (J_36 _ _ hG hS)
      · refine lv_bipush (v := nI 9) hx hb dL_run_20 (by decide) ?_
        refine lv_goto (tgt := 36) hx hb dL_run_22 (by decide) ?_
        exact r_top (by unfold h_i0; rw [if_neg (not_not_intro9 c_17)]) (J_36 _ _ hG hS)
