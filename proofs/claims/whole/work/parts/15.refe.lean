/-! what a step keeps -/
theorem wA_s {σ : St} {F k i v : Nat} : (wA σ F k i v).2.2.1 F k = up1 (σ.2.2.1 F k) i v := up3_s
theorem wB_s {σ : St} {F k i : Nat} {v : Int32} : (wB σ F k i v).2.2.2 F k = up1 (σ.2.2.2 F k) i v := up3_s
theorem SI_w {σ σ' : St} (h : SI σ) (h1 : σ'.2.2.1 937 0 = σ.2.2.1 937 0) (h2 : σ'.2.1 942 0 = σ.2.1 942 0) (h3 : σ'.1 914 0 = σ.1 914 0) (h4 : σ'.2.2.1 907 0 = σ.2.2.1 907 0) (h5 : ∀ k, σ'.2.2.1 908 0 k ≤ 500) (h6 : ∀ k, σ'.2.2.1 909 0 k ≤ 500) (h7 : σ'.1 901 0 ≤ 99) : SI σ' := by
  unfold SI at h ⊢
  rw [h1, h2, h3, h4]
  exact ⟨h.1, h.2.1, h.2.2.1, h.2.2.2.1, h.2.2.2.2.1, h.2.2.2.2.2.1, h5, h6, h7⟩
theorem SI_g {σ : St} (h : SI σ) {F k v : Nat} (h1 : F ≠ 914) (h2 : F ≠ 901) : SI (wN σ F k v) := SI_w h rfl rfl (up2_n (fun z => h1 z.1.symm)) rfl h.2.2.2.2.2.2.1 h.2.2.2.2.2.2.2.1 (by show up2 _ _ _ _ _ _ ≤ 99; rw [up2_n (fun z => h2 z.1.symm)]; exact h.2.2.2.2.2.2.2.2)
theorem SI_b {σ : St} (h : SI σ) {F k i : Nat} {v : Int32} : SI (wB σ F k i v) := SI_w h rfl rfl rfl rfl h.2.2.2.2.2.2.1 h.2.2.2.2.2.2.2.1 h.2.2.2.2.2.2.2.2
theorem up1_le {f : Nat → Nat} {i v b : Nat} (h : ∀ k, f k ≤ b) (hv : v ≤ b) : ∀ k, up1 f i v k ≤ b := fun k => by
  unfold up1
  split
  · exact hv
  · exact h k
theorem SI_c {σ : St} (h : SI σ) {i v : Nat} : SI (wA σ 936 0 i v) := SI_w h rfl rfl rfl rfl h.2.2.2.2.2.2.1 h.2.2.2.2.2.2.2.1 h.2.2.2.2.2.2.2.2
theorem SI_u {σ : St} (h : SI σ) {i v : Nat} (hv : v ≤ 500) : SI (wA σ 908 0 i v) := SI_w h rfl rfl rfl rfl (by rw [wA_s]; exact up1_le h.2.2.2.2.2.2.1 hv) h.2.2.2.2.2.2.2.1 h.2.2.2.2.2.2.2.2
theorem SI_s {σ : St} (h : SI σ) {i v : Nat} (hv : v ≤ 500) : SI (wA σ 909 0 i v) := SI_w h rfl rfl rfl rfl h.2.2.2.2.2.2.1 (by rw [wA_s]; exact up1_le h.2.2.2.2.2.2.2.1 hv) h.2.2.2.2.2.2.2.2
theorem SI_cut {σ : St} (h : SI σ) {p i t : Nat} : SI (m_cutsIn p i t σ) := SI_w h rfl rfl rfl rfl h.2.2.2.2.2.2.1 h.2.2.2.2.2.2.2.1 (by
  show σ.1 901 0 + (if 99 ≤ σ.1 901 0 then 0 else 1) ≤ 99
  have := h.2.2.2.2.2.2.2.2
  split <;> omega)
def m_lim (a : Nat) : Nat := if ¬ a = 2 then 11 else 9
theorem SI_at {σ : St} (h : SI σ) {a v : Nat} (hv : v ≤ m_lim a) : SI (wA σ 937 0 a v) := by
  obtain ⟨h1, h2, h3, h4⟩ := h
  have e : ∀ k, (wA σ 937 0 a v).2.2.1 937 0 k = if k = a then v else σ.2.2.1 937 0 k := fun k => by
    rw [wA_s]
    rfl
  unfold m_lim at hv
  refine ⟨?_, ?_, ?_, h4⟩
  · rw [e]; split
    · rename_i z; subst z; exact Nat.lt_succ_of_le hv
    · exact h1
  · rw [e]; split
    · rename_i z; subst z; exact Nat.lt_succ_of_le hv
    · exact h2
  · rw [e]; split
    · rename_i z; subst z; exact Nat.lt_succ_of_le hv
    · exact h3
theorem SI_lim {σ : St} (h : SI σ) {a : Nat} (ha : a < 3) : σ.2.2.1 937 0 a ≤ m_lim a := by
  obtain ⟨h1, h2, h3, -⟩ := h
  unfold m_lim
  rcases (by omega : a = 0 ∨ a = 1 ∨ a = 2) with rfl | rfl | rfl
  · exact Nat.le_of_lt_succ h1
  · exact Nat.le_of_lt_succ h2
  · exact Nat.le_of_lt_succ h3
theorem m_tf_lt {U : Nat} {its : Int32} {σ : St} (hT : σ.1 914 0 ≤ 16) (h : ¬ m_tf U its σ = (-1)) : σ.2.2.1 U 0 (tn (m_tf U its σ)) < σ.2.2.1 907 0 (tn (m_tf U its σ)) := tff_lt _ _ hT h
theorem SI_step0 {σ : St} (h : SI σ) (p fr : Nat) : SI (m_step0 p fr σ).2 := by
  unfold m_step0
  repeat' split
  all_goals first | exact h | exact SI_g h (by decide) (by decide) | exact SI_g (SI_b (SI_c h)) (by decide) (by decide)
theorem SI_step1 {σ : St} (h : SI σ) (p fr : Nat) : SI (m_step1 p fr σ).2 := by
  unfold m_step1
  repeat' split
  all_goals first | exact h | exact SI_g h (by decide) (by decide) | skip
  rename_i c9
  refine SI_g (SI_b (SI_c (SI_s h ?_))) (by decide) (by decide)
  have h1 := m_tf_lt h.2.2.2.2.1 c9
  have h2 := h.2.2.2.2.2.1 (tn (m_tf 909 (σ.2.1 942 0) σ))
  omega
theorem SI_step2 {σ : St} (h : SI σ) (p fr : Nat) : SI (m_step2 p fr σ).2 := by
  unfold m_step2
  repeat' split
  all_goals first | exact h | exact SI_g h (by decide) (by decide) | skip
  rename_i c9
  refine SI_g (SI_b (SI_c (SI_u (SI_cut h) ?_))) (by decide) (by decide)
  have h1 := m_tf_lt h.2.2.2.2.1 c9
  have h2 := h.2.2.2.2.2.1 (tn (m_tf 908 (σ.2.1 942 0) σ))
  omega
theorem at_step0 (p fr : Nat) (σ : St) : (m_step0 p fr σ).2.2.2.1 937 = σ.2.2.1 937 := by
  unfold m_step0
  repeat' split
  all_goals rfl
theorem st_step0 (p fr : Nat) (σ : St) : (m_step0 p fr σ).2.1 943 0 ≤ σ.1 943 0 + 1 := by
  unfold m_step0
  repeat' split
  all_goals first | exact Nat.le_succ _ | exact Nat.le_refl _
theorem at_step1 (p fr : Nat) (σ : St) : (m_step1 p fr σ).2.2.2.1 937 = σ.2.2.1 937 := by
  unfold m_step1
  repeat' split
  all_goals rfl
theorem st_step1 (p fr : Nat) (σ : St) : (m_step1 p fr σ).2.1 943 0 ≤ σ.1 943 0 + 1 := by
  unfold m_step1
  repeat' split
  all_goals first | exact Nat.le_succ _ | exact Nat.le_refl _
theorem at_step2 (p fr : Nat) (σ : St) : (m_step2 p fr σ).2.2.2.1 937 = σ.2.2.1 937 := by
  unfold m_step2
  repeat' split
  all_goals rfl
theorem st_step2 (p fr : Nat) (σ : St) : (m_step2 p fr σ).2.1 943 0 ≤ σ.1 943 0 + 1 := by
  unfold m_step2
  repeat' split
  all_goals first | exact Nat.le_succ _ | exact Nat.le_refl _
def m_dist (x y : Nat) : Nat := (x - y) + (y - x)
def m_nx (x to : Nat) : Nat := if to ≤ x then x - 1 else x + 1
theorem stp {x to : Nat} (hx : x < 100) (h : ¬ x = to) : nI x + (if to ≤ x then (-1) else nI 1) = nI (m_nx x to) := by
  unfold m_nx
  split
  · obtain ⟨z, rfl⟩ : ∃ z, x = z + 1 := ⟨x - 1, by omega⟩
    exact pk_m1 z
  · exact nI_add _ _
theorem nx_lim {x to b : Nat} (hx : x ≤ b) (ht : to ≤ b) (h : ¬ x = to) : m_nx x to ≤ b := by
  unfold m_nx
  split <;> omega
theorem nx_dist {x to : Nat} (h : ¬ x = to) : m_dist (m_nx x to) to + 1 = m_dist x to := by
  unfold m_nx m_dist
  split <;> omega
def m_to (a : Nat) (v : Int32) (σ : St) : Int32 := if ¬ σ.2.1 941 0 = 0 then nI (σ.2.2.1 937 0 a) + v else v
def m_mv0 (p fr a to : Nat) : Nat → St → Int32 × St
  | 0, σ => (nI 0, σ)
  | f + 1, σ => if (m_step0 p fr (wA σ 937 0 a (m_nx (σ.2.2.1 937 0 a) to))).1 = 0 then m_mv0 p fr a to f (m_step0 p fr (wA σ 937 0 a (m_nx (σ.2.2.1 937 0 a) to))).2 else m_step0 p fr (wA σ 937 0 a (m_nx (σ.2.2.1 937 0 a) to))
def m_moves0 (p a : Nat) (v : Int32) (fr : Nat) (σ : St) : Int32 × St := if ix (m_to a v σ) (m_lim a + 1) then m_mv0 p fr a (tn (m_to a v σ)) (m_dist (σ.2.2.1 937 0 a) (tn (m_to a v σ))) σ else (nI 1, σ)
theorem mv_at0 (p fr a x : Nat) (σ : St) : (m_step0 p fr (wA σ 937 0 a x)).2.2.2.1 937 0 a = x := by
  rw [at_step0, wA_s, up1_s]
def m_mv1 (p fr a to : Nat) : Nat → St → Int32 × St
  | 0, σ => (nI 0, σ)
  | f + 1, σ => if (m_step1 p fr (wA σ 937 0 a (m_nx (σ.2.2.1 937 0 a) to))).1 = 0 then m_mv1 p fr a to f (m_step1 p fr (wA σ 937 0 a (m_nx (σ.2.2.1 937 0 a) to))).2 else m_step1 p fr (wA σ 937 0 a (m_nx (σ.2.2.1 937 0 a) to))
def m_moves1 (p a : Nat) (v : Int32) (fr : Nat) (σ : St) : Int32 × St := if ix (m_to a v σ) (m_lim a + 1) then m_mv1 p fr a (tn (m_to a v σ)) (m_dist (σ.2.2.1 937 0 a) (tn (m_to a v σ))) σ else (nI 1, σ)
theorem mv_at1 (p fr a x : Nat) (σ : St) : (m_step1 p fr (wA σ 937 0 a x)).2.2.2.1 937 0 a = x := by
  rw [at_step1, wA_s, up1_s]
def m_mv2 (p fr a to : Nat) : Nat → St → Int32 × St
  | 0, σ => (nI 0, σ)
  | f + 1, σ => if (m_step2 p fr (wA σ 937 0 a (m_nx (σ.2.2.1 937 0 a) to))).1 = 0 then m_mv2 p fr a to f (m_step2 p fr (wA σ 937 0 a (m_nx (σ.2.2.1 937 0 a) to))).2 else m_step2 p fr (wA σ 937 0 a (m_nx (σ.2.2.1 937 0 a) to))
def m_moves2 (p a : Nat) (v : Int32) (fr : Nat) (σ : St) : Int32 × St := if ix (m_to a v σ) (m_lim a + 1) then m_mv2 p fr a (tn (m_to a v σ)) (m_dist (σ.2.2.1 937 0 a) (tn (m_to a v σ))) σ else (nI 1, σ)
theorem mv_at2 (p fr a x : Nat) (σ : St) : (m_step2 p fr (wA σ 937 0 a x)).2.2.2.1 937 0 a = x := by
  rw [at_step2, wA_s, up1_s]
set_option maxRecDepth 100000 in
set_option maxHeartbeats 4000000 in
theorem c_X9_moves0 {D : va_G} {cI cZ cO : ClassId} (l : Launch) (L : Lay) (σ : St) (ow : Nat → Prop) (p9 a9 : Nat) (v : Int32) (fr : Nat) (hp : p9 < 6) (ha : a9 < 3) (hfr : fr < 100000) (hst : σ.1 943 0 < 90000) (hs0 : SI σ) : RM D cI cZ cO rdom l yX9_moves cX9_moves 8 ((some FieldType.int)) 2 52 [.ref (L 999 0), .int (nI p9), .int (nI a9), .int v, .int (nI fr), .int (nI 0)] L σ ow ((m_moves0 p9 a9 v fr σ).1) ((m_moves0 p9 a9 v fr σ).2) := by
  refine rm_of rfl (Nat.le_of_ble_eq_true rfl) ?_
  intro p e s m below meth c ls X hK hG hr hlocks hl
  have X : CallFix p m c cX9_moves 8 s _ TB RX9 := X
  have hx := X.1
  have hb := X.2.1
  have hS : va_S (AA ow s.heap.size) s.heap s.heap [] := va_S.rf
  have hA : ∀ q, ow q → AA ow s.heap.size q := fun _ h => Or.inl h
  have hl : lv_has ls 8 [(0, .ref (L 999 0)), (1, .int (nI p9)), (2, .int (nI a9)), (3, .int v), (4, .int (nI fr)), (5, .int (nI 0))] := hl
  refine r_cutH 19 [.int (m_to a9 v σ)] hG hS (fun H locs hG hS => ?_) (fun J_19 => ?_)
  · refine lv_istore (lv' := [(6, .int (m_to a9 v σ)), (0, .ref (L 999 0)), (1, .int (nI p9)), (2, .int (nI a9)), (3, .int v), (4, .int (nI fr)), (5, .int (nI 0))]) hx hb dX9_moves_19 hl (by decide) rfl (fun ls hl => ?_)
    refine lv_iload hx hb dX9_moves_21 (lv_at hl 0 rfl) ?_
    refine lv_iconst (v := nI 0) hx hb dX9_moves_23 (by decide) ?_
    refine r_cutH 36 [.int (nI (m_lim a9)), .int (nI 0), .int (m_to a9 v σ)] hG hS (fun H locs hG hS => ?_) (fun J_36 => ?_)
    · refine rm_callS X hK hG hS ysX9_in ml_X9_114 [.int (m_to a9 v σ), .int (nI 0), .int (nI (m_lim a9))] [] (c_X9_in l L σ ow (m_to a9 v σ) (nI 0) (nI (m_lim a9))) rfl hl.1 rfl (Nat.le_of_ble_eq_true rfl) ⟨Nat.le_of_ble_eq_true rfl, Nat.le_of_ble_eq_true rfl⟩ ⟨Nat.zero_le _, Nat.zero_le _⟩ dX9_moves_36 (fun H locs hG hS => ?_)
      refine r_top (y := b2i (ix (m_to a9 v σ) (m_lim a9 + 1))) (b2i_c (rg_z _ (by unfold m_lim; split <;> decide))) ?_
      refine r_if_neB (tgt := 44) hx hb dX9_moves_39 (by decide) (fun c_39 => ?_) (fun c_39 => ?_)
      · refine lv_iconst (v := nI 0) hx hb dX9_moves_44 (by decide) ?_
        refine lv_istore (lv' := [(7, .int (nI 0)), (6, .int (m_to a9 v σ)), (0, .ref (L 999 0)), (1, .int (nI p9)), (2, .int (nI a9)), (3, .int v), (4, .int (nI fr)), (5, .int (nI 0))]) hx hb dX9_moves_45 hl (by decide) rfl (fun ls hl => ?_)
        refine r_loop (ι := Int32 × St) (fun (⟨w9, σ9⟩ : Int32 × St) => [(0, .ref (L 999 0)), (1, .int (nI p9)), (2, .int (nI a9)), (3, .int v), (4, .int (nI fr)), (5, .int (nI 0)), (6, .int (m_to a9 v σ)), (7, .int w9)]) (fun (⟨w9, σ9⟩ : Int32 × St) => σ9) (fun (⟨w9, σ9⟩ : Int32 × St) => (if w9 = 0 then 1 + m_dist (σ9.2.2.1 937 0 a9) (tn (m_to a9 v σ)) else 0)) (fun (⟨w9, σ9⟩ : Int32 × St) => m_mv0 p9 fr a9 (tn (m_to a9 v σ)) (m_dist (σ.2.2.1 937 0 a9) (tn (m_to a9 v σ))) σ = (if w9 = 0 then m_mv0 p9 fr a9 (tn (m_to a9 v σ)) (m_dist (σ9.2.2.1 937 0 a9) (tn (m_to a9 v σ))) σ9 else (w9, σ9)) ∧ SI σ9 ∧ (w9 = 0 → σ9.1 943 0 + m_dist (σ9.2.2.1 937 0 a9) (tn (m_to a9 v σ)) ≤ σ.1 943 0 + m_dist (σ.2.2.1 937 0 a9) (tn (m_to a9 v σ)))) ⟨nI 0, σ⟩ (⟨(if_pos rfl).symm, hs0, fun _ => Nat.le_refl _⟩) hG hS (lv_sub hl [2, 3, 4, 5, 6, 7, 1, 0] rfl) ?_
        rintro ⟨w9, σ9⟩ hinv ih H locs ls hG hS hl
        have hG : PW D cI cZ cO rdom L σ9 ow H := hG
        have hl : lv_has ls 8 [(0, .ref (L 999 0)), (1, .int (nI p9)), (2, .int (nI a9)), (3, .int v), (4, .int (nI fr)), (5, .int (nI 0)), (6, .int (m_to a9 v σ)), (7, .int w9)] := hl
        obtain ⟨hq, hs, hb9⟩ := hinv
        have hto : tn (m_to a9 v σ) ≤ m_lim a9 := Nat.le_of_lt_succ (ix_lt c_39)
        have hd0 : m_dist (σ.2.2.1 937 0 a9) (tn (m_to a9 v σ)) ≤ 11 := by have h1 := SI_lim hs0 ha; have h2 := (by unfold m_lim; split <;> decide : m_lim a9 ≤ 11); unfold m_dist; omega
        refine lv_iload hx hb dX9_moves_47 (lv_at hl 7 rfl) ?_
        refine lv_if_ne (tgt := 102) hx hb dX9_moves_49 (by decide) (fun c_49 => ?_) (fun c_49 => ?_)
        · have hE : m_moves0 p9 a9 v fr σ = (w9, σ9) := by unfold m_moves0; rw [if_pos c_39, hq]; first | exact if_neg c_49 | (rw [if_pos c_49, c_60, show m_dist (tn (m_to a9 v σ)) (tn (m_to a9 v σ)) = 0 from by unfold m_dist; omega, c_49]; rfl)
          refine lv_iload hx hb dX9_moves_102 (lv_at hl 7 rfl) ?_
          exact rm_ret hx hb hr hlocks hG hS (by rw [hE]) (by rw [hE]) rfl dX9_moves_104
        · refine lv_aload_n hx hb dX9_moves_52 rfl (lv_at hl 0 rfl) ?_
          refine gt_X9_98 X hK hG rd_999 dX9_moves_53 ?_
          refine lv_iload_n hx hb dX9_moves_56 rfl (lv_at hl 2 rfl) ?_
          refine al_937 X hK hG rd_937 (i := a9) (x := σ9.2.2.1 937 0 a9) (by omega) rfl dX9_moves_57 ?_
          refine lv_iload hx hb dX9_moves_58 (lv_at hl 6 rfl) ?_
          refine r_top (y := nI (tn (m_to a9 v σ))) (ix_eq c_39) ?_
          have hb3 := hb9 c_49
          refine r_icmp_eqN (tgt := 102) hx hb dX9_moves_60 (by decide) (by have := SI_lim hs ha; have := (by unfold m_lim; split <;> decide : m_lim a9 ≤ 11); omega) (by have := (by unfold m_lim; split <;> decide : m_lim a9 ≤ 11); omega) (fun c_60 => ?_) (fun c_60 => ?_)
          · have hE : m_moves0 p9 a9 v fr σ = (w9, σ9) := by unfold m_moves0; rw [if_pos c_39, hq]; first | exact if_neg c_49 | (rw [if_pos c_49, c_60, show m_dist (tn (m_to a9 v σ)) (tn (m_to a9 v σ)) = 0 from by unfold m_dist; omega, c_49]; rfl)
            refine lv_iload hx hb dX9_moves_102 (lv_at hl 7 rfl) ?_
            exact rm_ret hx hb hr hlocks hG hS (by rw [hE]) (by rw [hE]) rfl dX9_moves_104
          · refine lv_aload_n hx hb dX9_moves_63 rfl (lv_at hl 0 rfl) ?_
            refine gt_X9_98 X hK hG rd_999 dX9_moves_64 ?_
            refine lv_iload_n hx hb dX9_moves_67 rfl (lv_at hl 2 rfl) ?_
            refine lv_dup2_11 hx hb dX9_moves_68 rfl rfl ?_
            refine al_937 X hK hG rd_937 (i := a9) (x := σ9.2.2.1 937 0 a9) (ha) rfl dX9_moves_69 ?_
            refine r_cutH 86 [.int (if tn (m_to a9 v σ) ≤ σ9.2.2.1 937 0 a9 then (-1) else nI 1), .int (nI (σ9.2.2.1 937 0 a9)), .int (nI a9), .ref (L 937 0)] hG hS (fun H locs hG hS => ?_) (fun J_86 => ?_)
            · refine lv_iadd hx hb dX9_moves_86 ?_
              refine r_top (y := nI (m_nx (σ9.2.2.1 937 0 a9) (tn (m_to a9 v σ)))) (stp (by have := SI_lim hs ha; have := (by unfold m_lim; split <;> decide : m_lim a9 ≤ 11); omega) c_60) ?_
              refine as_937 X hK hG hS hA rd_937 (i := a9) (ha) dX9_moves_87 (fun H locs hG hS => ?_)
              refine lv_aload_n hx hb dX9_moves_88 rfl (lv_at hl 0 rfl) ?_
              refine lv_iload_n hx hb dX9_moves_89 rfl (lv_at hl 1 rfl) ?_
              refine lv_iload hx hb dX9_moves_90 (lv_at hl 4 rfl) ?_
              refine lv_iload hx hb dX9_moves_92 (lv_at hl 5 rfl) ?_
              refine rm_callV X hK hG hS yvX9_step ml_X9_181 kX9 rfl rd_999 [.int (nI p9), .int (nI fr), .int (nI 0)] [] (c_X9_step0 l L (wA σ9 937 0 a9 (m_nx (σ9.2.2.1 937 0 a9) (tn (m_to a9 v σ)))) ow p9 fr hp hfr (by show σ9.1 943 0 < 100000; omega) (SI_at hs (nx_lim (SI_lim hs ha) hto c_60))) rfl hl.1 rfl (Nat.le_of_ble_eq_true rfl) ⟨Nat.le_of_ble_eq_true rfl, Nat.le_of_ble_eq_true rfl⟩ ⟨Nat.zero_le _, Nat.zero_le _⟩ dX9_moves_94 (fun H locs hG hS => ?_)
              refine lv_istore (lv' := [(7, .int ((m_step0 p9 fr (wA σ9 937 0 a9 (m_nx (σ9.2.2.1 937 0 a9) (tn (m_to a9 v σ))))).1)), (0, .ref (L 999 0)), (1, .int (nI p9)), (2, .int (nI a9)), (3, .int v), (4, .int (nI fr)), (5, .int (nI 0)), (6, .int (m_to a9 v σ))]) hx hb dX9_moves_97 hl (by decide) rfl (fun ls hl => ?_)
              have hnd := nx_dist c_60
              have hb3 := hb9 c_49
              have hat9 := mv_at0 p9 fr a9 (m_nx (σ9.2.2.1 937 0 a9) (tn (m_to a9 v σ))) σ9
              have hst9 := st_step0 p9 fr (wA σ9 937 0 a9 (m_nx (σ9.2.2.1 937 0 a9) (tn (m_to a9 v σ))))
              have hmu : (if (m_step0 p9 fr (wA σ9 937 0 a9 (m_nx (σ9.2.2.1 937 0 a9) (tn (m_to a9 v σ))))).1 = 0 then 1 + m_dist ((m_step0 p9 fr (wA σ9 937 0 a9 (m_nx (σ9.2.2.1 937 0 a9) (tn (m_to a9 v σ))))).2.2.2.1 937 0 a9) (tn (m_to a9 v σ)) else 0) < (if w9 = 0 then 1 + m_dist (σ9.2.2.1 937 0 a9) (tn (m_to a9 v σ)) else 0) := by rw [if_pos c_49, hat9]; split <;> omega
              have hq2 : m_mv0 p9 fr a9 (tn (m_to a9 v σ)) (m_dist (σ.2.2.1 937 0 a9) (tn (m_to a9 v σ))) σ = (if (m_step0 p9 fr (wA σ9 937 0 a9 (m_nx (σ9.2.2.1 937 0 a9) (tn (m_to a9 v σ))))).1 = 0 then m_mv0 p9 fr a9 (tn (m_to a9 v σ)) (m_dist ((m_step0 p9 fr (wA σ9 937 0 a9 (m_nx (σ9.2.2.1 937 0 a9) (tn (m_to a9 v σ))))).2.2.2.1 937 0 a9) (tn (m_to a9 v σ))) (m_step0 p9 fr (wA σ9 937 0 a9 (m_nx (σ9.2.2.1 937 0 a9) (tn (m_to a9 v σ))))).2 else ((m_step0 p9 fr (wA σ9 937 0 a9 (m_nx (σ9.2.2.1 937 0 a9) (tn (m_to a9 v σ))))).1, (m_step0 p9 fr (wA σ9 937 0 a9 (m_nx (σ9.2.2.1 937 0 a9) (tn (m_to a9 v σ))))).2)) := by rw [hq, if_pos c_49, hat9, ← hnd]; rfl
              have hb2 : (m_step0 p9 fr (wA σ9 937 0 a9 (m_nx (σ9.2.2.1 937 0 a9) (tn (m_to a9 v σ))))).1 = 0 → (m_step0 p9 fr (wA σ9 937 0 a9 (m_nx (σ9.2.2.1 937 0 a9) (tn (m_to a9 v σ))))).2.1 943 0 + m_dist ((m_step0 p9 fr (wA σ9 937 0 a9 (m_nx (σ9.2.2.1 937 0 a9) (tn (m_to a9 v σ))))).2.2.2.1 937 0 a9) (tn (m_to a9 v σ)) ≤ σ.1 943 0 + m_dist (σ.2.2.1 937 0 a9) (tn (m_to a9 v σ)) := fun _ => by rw [hat9]; have h7 : (wA σ9 937 0 a9 (m_nx (σ9.2.2.1 937 0 a9) (tn (m_to a9 v σ)))).1 943 0 = σ9.1 943 0 := rfl; omega
              refine lv_goto (tgt := 47) hx hb dX9_moves_99 (by decide) ?_
              exact ih ⟨(m_step0 p9 fr (wA σ9 937 0 a9 (m_nx (σ9.2.2.1 937 0 a9) (tn (m_to a9 v σ))))).1, (m_step0 p9 fr (wA σ9 937 0 a9 (m_nx (σ9.2.2.1 937 0 a9) (tn (m_to a9 v σ))))).2⟩ (hmu) (⟨hq2, SI_step0 (SI_at hs (nx_lim (SI_lim hs ha) hto c_60)) _ _, hb2⟩) H locs ls hG hS (lv_sub hl [1, 2, 3, 4, 5, 6, 7, 0] rfl)
            · refine lv_aload_n hx hb dX9_moves_70 rfl (lv_at hl 0 rfl) ?_
              refine gt_X9_98 X hK hG rd_999 dX9_moves_71 ?_
              refine lv_iload_n hx hb dX9_moves_74 rfl (lv_at hl 2 rfl) ?_
              refine al_937 X hK hG rd_937 (i := a9) (x := σ9.2.2.1 937 0 a9) (by omega) rfl dX9_moves_75 ?_
              refine lv_iload hx hb dX9_moves_76 (lv_at hl 6 rfl) ?_
              refine r_top (y := nI (tn (m_to a9 v σ))) (ix_eq c_39) ?_
              refine r_icmp_geN (tgt := 85) hx hb dX9_moves_78 (by decide) (by have := SI_lim hs ha; have := (by unfold m_lim; split <;> decide : m_lim a9 ≤ 11); omega) (by have := (by unfold m_lim; split <;> decide : m_lim a9 ≤ 11); omega) (fun c_78 => ?_) (fun c_78 => ?_)
              · refine lv_iconst (v := (-1)) hx hb dX9_moves_85 (by decide) ?_
                exact r_top (by rw [if_pos c_78]) (J_86 _ _ hG hS)
              · refine lv_iconst (v := nI 1) hx hb dX9_moves_81 (by decide) ?_
                refine lv_goto (tgt := 86) hx hb dX9_moves_82 (by decide) ?_
                exact r_top (by rw [if_neg (Nat.not_le.mpr c_78)]) (J_86 _ _ hG hS)
      · refine lv_iconst (v := nI 1) hx hb dX9_moves_42 (by decide) ?_
        exact rm_ret hx hb hr hlocks hG hS (by unfold m_moves0; rw [if_neg c_39]) (by unfold m_moves0; rw [if_neg c_39]) rfl dX9_moves_43
    · refine lv_iload_n hx hb dX9_moves_24 rfl (lv_at hl 3 rfl) ?_
      refine lv_iconst (v := nI 2) hx hb dX9_moves_25 (by decide) ?_
      refine r_icmp_neN (tgt := 34) hx hb dX9_moves_26 (by decide) (by omega) (by decide) (fun c_26 => ?_) (fun c_26 => ?_)
      · refine lv_bipush (v := nI 11) hx hb dX9_moves_34 (by decide) ?_
        exact r_top (by unfold m_lim; rw [if_pos c_26]) (J_36 _ _ hG hS)
      · refine lv_bipush (v := nI 9) hx hb dX9_moves_29 (by decide) ?_
        refine lv_goto (tgt := 36) hx hb dX9_moves_31 (by decide) ?_
        exact r_top (by unfold m_lim; rw [if_neg (not_not_intro9 c_26)]) (J_36 _ _ hG hS)
  · refine lv_aload_n hx hb dX9_moves_0 rfl (lv_at hl 0 rfl) ?_
    refine gt_X9_178 X hK hG rd_999 (x := σ.2.1 941 0) rfl dX9_moves_1 ?_
    refine lv_if_ne (tgt := 11) hx hb dX9_moves_4 (by decide) (fun c_4 => ?_) (fun c_4 => ?_)
    · refine lv_aload_n hx hb dX9_moves_11 rfl (lv_at hl 0 rfl) ?_
      refine gt_X9_98 X hK hG rd_999 dX9_moves_12 ?_
      refine lv_iload_n hx hb dX9_moves_15 rfl (lv_at hl 2 rfl) ?_
      refine al_937 X hK hG rd_937 (i := a9) (x := σ.2.2.1 937 0 a9) (by omega) rfl dX9_moves_16 ?_
      refine lv_iload_n hx hb dX9_moves_17 rfl (lv_at hl 3 rfl) ?_
      refine lv_iadd hx hb dX9_moves_18 ?_
      exact r_top (by unfold m_to; rw [if_pos c_4]) (J_19 _ _ hG hS)
    · refine lv_iload_n hx hb dX9_moves_7 rfl (lv_at hl 3 rfl) ?_
      refine lv_goto (tgt := 19) hx hb dX9_moves_8 (by decide) ?_
      exact r_top (by unfold m_to; rw [if_neg (not_not_intro9 c_4)]) (J_19 _ _ hG hS)
set_option maxRecDepth 100000 in
set_option maxHeartbeats 4000000 in
theorem c_X9_moves1 {D : va_G} {cI cZ cO : ClassId} (l : Launch) (L : Lay) (σ : St) (ow : Nat → Prop) (p9 a9 : Nat) (v : Int32) (fr : Nat) (hp : p9 < 6) (ha : a9 < 3) (hfr : fr < 100000) (hst : σ.1 943 0 < 90000) (hs0 : SI σ) : RM D cI cZ cO rdom l yX9_moves cX9_moves 8 ((some FieldType.int)) 2 52 [.ref (L 999 0), .int (nI p9), .int (nI a9), .int v, .int (nI fr), .int (nI 1)] L σ ow ((m_moves1 p9 a9 v fr σ).1) ((m_moves1 p9 a9 v fr σ).2) := by
  refine rm_of rfl (Nat.le_of_ble_eq_true rfl) ?_
  intro p e s m below meth c ls X hK hG hr hlocks hl
  have X : CallFix p m c cX9_moves 8 s _ TB RX9 := X
  have hx := X.1
  have hb := X.2.1
  have hS : va_S (AA ow s.heap.size) s.heap s.heap [] := va_S.rf
  have hA : ∀ q, ow q → AA ow s.heap.size q := fun _ h => Or.inl h
  have hl : lv_has ls 8 [(0, .ref (L 999 0)), (1, .int (nI p9)), (2, .int (nI a9)), (3, .int v), (4, .int (nI fr)), (5, .int (nI 1))] := hl
  refine r_cutH 19 [.int (m_to a9 v σ)] hG hS (fun H locs hG hS => ?_) (fun J_19 => ?_)
  · refine lv_istore (lv' := [(6, .int (m_to a9 v σ)), (0, .ref (L 999 0)), (1, .int (nI p9)), (2, .int (nI a9)), (3, .int v), (4, .int (nI fr)), (5, .int (nI 1))]) hx hb dX9_moves_19 hl (by decide) rfl (fun ls hl => ?_)
    refine lv_iload hx hb dX9_moves_21 (lv_at hl 0 rfl) ?_
    refine lv_iconst (v := nI 0) hx hb dX9_moves_23 (by decide) ?_
    refine r_cutH 36 [.int (nI (m_lim a9)), .int (nI 0), .int (m_to a9 v σ)] hG hS (fun H locs hG hS => ?_) (fun J_36 => ?_)
    · refine rm_callS X hK hG hS ysX9_in ml_X9_114 [.int (m_to a9 v σ), .int (nI 0), .int (nI (m_lim a9))] [] (c_X9_in l L σ ow (m_to a9 v σ) (nI 0) (nI (m_lim a9))) rfl hl.1 rfl (Nat.le_of_ble_eq_true rfl) ⟨Nat.le_of_ble_eq_true rfl, Nat.le_of_ble_eq_true rfl⟩ ⟨Nat.zero_le _, Nat.zero_le _⟩ dX9_moves_36 (fun H locs hG hS => ?_)
      refine r_top (y := b2i (ix (m_to a9 v σ) (m_lim a9 + 1))) (b2i_c (rg_z _ (by unfold m_lim; split <;> decide))) ?_
      refine r_if_neB (tgt := 44) hx hb dX9_moves_39 (by decide) (fun c_39 => ?_) (fun c_39 => ?_)
      · refine lv_iconst (v := nI 0) hx hb dX9_moves_44 (by decide) ?_
        refine lv_istore (lv' := [(7, .int (nI 0)), (6, .int (m_to a9 v σ)), (0, .ref (L 999 0)), (1, .int (nI p9)), (2, .int (nI a9)), (3, .int v), (4, .int (nI fr)), (5, .int (nI 1))]) hx hb dX9_moves_45 hl (by decide) rfl (fun ls hl => ?_)
        refine r_loop (ι := Int32 × St) (fun (⟨w9, σ9⟩ : Int32 × St) => [(0, .ref (L 999 0)), (1, .int (nI p9)), (2, .int (nI a9)), (3, .int v), (4, .int (nI fr)), (5, .int (nI 1)), (6, .int (m_to a9 v σ)), (7, .int w9)]) (fun (⟨w9, σ9⟩ : Int32 × St) => σ9) (fun (⟨w9, σ9⟩ : Int32 × St) => (if w9 = 0 then 1 + m_dist (σ9.2.2.1 937 0 a9) (tn (m_to a9 v σ)) else 0)) (fun (⟨w9, σ9⟩ : Int32 × St) => m_mv1 p9 fr a9 (tn (m_to a9 v σ)) (m_dist (σ.2.2.1 937 0 a9) (tn (m_to a9 v σ))) σ = (if w9 = 0 then m_mv1 p9 fr a9 (tn (m_to a9 v σ)) (m_dist (σ9.2.2.1 937 0 a9) (tn (m_to a9 v σ))) σ9 else (w9, σ9)) ∧ SI σ9 ∧ (w9 = 0 → σ9.1 943 0 + m_dist (σ9.2.2.1 937 0 a9) (tn (m_to a9 v σ)) ≤ σ.1 943 0 + m_dist (σ.2.2.1 937 0 a9) (tn (m_to a9 v σ)))) ⟨nI 0, σ⟩ (⟨(if_pos rfl).symm, hs0, fun _ => Nat.le_refl _⟩) hG hS (lv_sub hl [2, 3, 4, 5, 6, 7, 1, 0] rfl) ?_
        rintro ⟨w9, σ9⟩ hinv ih H locs ls hG hS hl
        have hG : PW D cI cZ cO rdom L σ9 ow H := hG
        have hl : lv_has ls 8 [(0, .ref (L 999 0)), (1, .int (nI p9)), (2, .int (nI a9)), (3, .int v), (4, .int (nI fr)), (5, .int (nI 1)), (6, .int (m_to a9 v σ)), (7, .int w9)] := hl
        obtain ⟨hq, hs, hb9⟩ := hinv
        have hto : tn (m_to a9 v σ) ≤ m_lim a9 := Nat.le_of_lt_succ (ix_lt c_39)
        have hd0 : m_dist (σ.2.2.1 937 0 a9) (tn (m_to a9 v σ)) ≤ 11 := by have h1 := SI_lim hs0 ha; have h2 := (by unfold m_lim; split <;> decide : m_lim a9 ≤ 11); unfold m_dist; omega
        refine lv_iload hx hb dX9_moves_47 (lv_at hl 7 rfl) ?_
        refine lv_if_ne (tgt := 102) hx hb dX9_moves_49 (by decide) (fun c_49 => ?_) (fun c_49 => ?_)
        · have hE : m_moves1 p9 a9 v fr σ = (w9, σ9) := by unfold m_moves1; rw [if_pos c_39, hq]; first | exact if_neg c_49 | (rw [if_pos c_49, c_60, show m_dist (tn (m_to a9 v σ)) (tn (m_to a9 v σ)) = 0 from by unfold m_dist; omega, c_49]; rfl)
          refine lv_iload hx hb dX9_moves_102 (lv_at hl 7 rfl) ?_
          exact rm_ret hx hb hr hlocks hG hS (by rw [hE]) (by rw [hE]) rfl dX9_moves_104
        · refine lv_aload_n hx hb dX9_moves_52 rfl (lv_at hl 0 rfl) ?_
          refine gt_X9_98 X hK hG rd_999 dX9_moves_53 ?_
          refine lv_iload_n hx hb dX9_moves_56 rfl (lv_at hl 2 rfl) ?_
          refine al_937 X hK hG rd_937 (i := a9) (x := σ9.2.2.1 937 0 a9) (by omega) rfl dX9_moves_57 ?_
          refine lv_iload hx hb dX9_moves_58 (lv_at hl 6 rfl) ?_
          refine r_top (y := nI (tn (m_to a9 v σ))) (ix_eq c_39) ?_
          have hb3 := hb9 c_49
          refine r_icmp_eqN (tgt := 102) hx hb dX9_moves_60 (by decide) (by have := SI_lim hs ha; have := (by unfold m_lim; split <;> decide : m_lim a9 ≤ 11); omega) (by have := (by unfold m_lim; split <;> decide : m_lim a9 ≤ 11); omega) (fun c_60 => ?_) (fun c_60 => ?_)
          · have hE : m_moves1 p9 a9 v fr σ = (w9, σ9) := by unfold m_moves1; rw [if_pos c_39, hq]; first | exact if_neg c_49 | (rw [if_pos c_49, c_60, show m_dist (tn (m_to a9 v σ)) (tn (m_to a9 v σ)) = 0 from by unfold m_dist; omega, c_49]; rfl)
            refine lv_iload hx hb dX9_moves_102 (lv_at hl 7 rfl) ?_
            exact rm_ret hx hb hr hlocks hG hS (by rw [hE]) (by rw [hE]) rfl dX9_moves_104
          · refine lv_aload_n hx hb dX9_moves_63 rfl (lv_at hl 0 rfl) ?_
            refine gt_X9_98 X hK hG rd_999 dX9_moves_64 ?_
            refine lv_iload_n hx hb dX9_moves_67 rfl (lv_at hl 2 rfl) ?_
            refine lv_dup2_11 hx hb dX9_moves_68 rfl rfl ?_
            refine al_937 X hK hG rd_937 (i := a9) (x := σ9.2.2.1 937 0 a9) (ha) rfl dX9_moves_69 ?_
            refine r_cutH 86 [.int (if tn (m_to a9 v σ) ≤ σ9.2.2.1 937 0 a9 then (-1) else nI 1), .int (nI (σ9.2.2.1 937 0 a9)), .int (nI a9), .ref (L 937 0)] hG hS (fun H locs hG hS => ?_) (fun J_86 => ?_)
            · refine lv_iadd hx hb dX9_moves_86 ?_
              refine r_top (y := nI (m_nx (σ9.2.2.1 937 0 a9) (tn (m_to a9 v σ)))) (stp (by have := SI_lim hs ha; have := (by unfold m_lim; split <;> decide : m_lim a9 ≤ 11); omega) c_60) ?_
              refine as_937 X hK hG hS hA rd_937 (i := a9) (ha) dX9_moves_87 (fun H locs hG hS => ?_)
              refine lv_aload_n hx hb dX9_moves_88 rfl (lv_at hl 0 rfl) ?_
              refine lv_iload_n hx hb dX9_moves_89 rfl (lv_at hl 1 rfl) ?_
              refine lv_iload hx hb dX9_moves_90 (lv_at hl 4 rfl) ?_
              refine lv_iload hx hb dX9_moves_92 (lv_at hl 5 rfl) ?_
              refine rm_callV X hK hG hS yvX9_step ml_X9_181 kX9 rfl rd_999 [.int (nI p9), .int (nI fr), .int (nI 1)] [] (c_X9_step1 l L (wA σ9 937 0 a9 (m_nx (σ9.2.2.1 937 0 a9) (tn (m_to a9 v σ)))) ow p9 fr hp hfr (by show σ9.1 943 0 < 100000; omega) (SI_at hs (nx_lim (SI_lim hs ha) hto c_60))) rfl hl.1 rfl (Nat.le_of_ble_eq_true rfl) ⟨Nat.le_of_ble_eq_true rfl, Nat.le_of_ble_eq_true rfl⟩ ⟨Nat.zero_le _, Nat.zero_le _⟩ dX9_moves_94 (fun H locs hG hS => ?_)
              refine lv_istore (lv' := [(7, .int ((m_step1 p9 fr (wA σ9 937 0 a9 (m_nx (σ9.2.2.1 937 0 a9) (tn (m_to a9 v σ))))).1)), (0, .ref (L 999 0)), (1, .int (nI p9)), (2, .int (nI a9)), (3, .int v), (4, .int (nI fr)), (5, .int (nI 1)), (6, .int (m_to a9 v σ))]) hx hb dX9_moves_97 hl (by decide) rfl (fun ls hl => ?_)
              have hnd := nx_dist c_60
              have hb3 := hb9 c_49
              have hat9 := mv_at1 p9 fr a9 (m_nx (σ9.2.2.1 937 0 a9) (tn (m_to a9 v σ))) σ9
              have hst9 := st_step1 p9 fr (wA σ9 937 0 a9 (m_nx (σ9.2.2.1 937 0 a9) (tn (m_to a9 v σ))))
              have hmu : (if (m_step1 p9 fr (wA σ9 937 0 a9 (m_nx (σ9.2.2.1 937 0 a9) (tn (m_to a9 v σ))))).1 = 0 then 1 + m_dist ((m_step1 p9 fr (wA σ9 937 0 a9 (m_nx (σ9.2.2.1 937 0 a9) (tn (m_to a9 v σ))))).2.2.2.1 937 0 a9) (tn (m_to a9 v σ)) else 0) < (if w9 = 0 then 1 + m_dist (σ9.2.2.1 937 0 a9) (tn (m_to a9 v σ)) else 0) := by rw [if_pos c_49, hat9]; split <;> omega
              have hq2 : m_mv1 p9 fr a9 (tn (m_to a9 v σ)) (m_dist (σ.2.2.1 937 0 a9) (tn (m_to a9 v σ))) σ = (if (m_step1 p9 fr (wA σ9 937 0 a9 (m_nx (σ9.2.2.1 937 0 a9) (tn (m_to a9 v σ))))).1 = 0 then m_mv1 p9 fr a9 (tn (m_to a9 v σ)) (m_dist ((m_step1 p9 fr (wA σ9 937 0 a9 (m_nx (σ9.2.2.1 937 0 a9) (tn (m_to a9 v σ))))).2.2.2.1 937 0 a9) (tn (m_to a9 v σ))) (m_step1 p9 fr (wA σ9 937 0 a9 (m_nx (σ9.2.2.1 937 0 a9) (tn (m_to a9 v σ))))).2 else ((m_step1 p9 fr (wA σ9 937 0 a9 (m_nx (σ9.2.2.1 937 0 a9) (tn (m_to a9 v σ))))).1, (m_step1 p9 fr (wA σ9 937 0 a9 (m_nx (σ9.2.2.1 937 0 a9) (tn (m_to a9 v σ))))).2)) := by rw [hq, if_pos c_49, hat9, ← hnd]; rfl
              have hb2 : (m_step1 p9 fr (wA σ9 937 0 a9 (m_nx (σ9.2.2.1 937 0 a9) (tn (m_to a9 v σ))))).1 = 0 → (m_step1 p9 fr (wA σ9 937 0 a9 (m_nx (σ9.2.2.1 937 0 a9) (tn (m_to a9 v σ))))).2.1 943 0 + m_dist ((m_step1 p9 fr (wA σ9 937 0 a9 (m_nx (σ9.2.2.1 937 0 a9) (tn (m_to a9 v σ))))).2.2.2.1 937 0 a9) (tn (m_to a9 v σ)) ≤ σ.1 943 0 + m_dist (σ.2.2.1 937 0 a9) (tn (m_to a9 v σ)) := fun _ => by rw [hat9]; have h7 : (wA σ9 937 0 a9 (m_nx (σ9.2.2.1 937 0 a9) (tn (m_to a9 v σ)))).1 943 0 = σ9.1 943 0 := rfl; omega
              refine lv_goto (tgt := 47) hx hb dX9_moves_99 (by decide) ?_
              exact ih ⟨(m_step1 p9 fr (wA σ9 937 0 a9 (m_nx (σ9.2.2.1 937 0 a9) (tn (m_to a9 v σ))))).1, (m_step1 p9 fr (wA σ9 937 0 a9 (m_nx (σ9.2.2.1 937 0 a9) (tn (m_to a9 v σ))))).2⟩ (hmu) (⟨hq2, SI_step1 (SI_at hs (nx_lim (SI_lim hs ha) hto c_60)) _ _, hb2⟩) H locs ls hG hS (lv_sub hl [1, 2, 3, 4, 5, 6, 7, 0] rfl)
            · refine lv_aload_n hx hb dX9_moves_70 rfl (lv_at hl 0 rfl) ?_
              refine gt_X9_98 X hK hG rd_999 dX9_moves_71 ?_
              refine lv_iload_n hx hb dX9_moves_74 rfl (lv_at hl 2 rfl) ?_
              refine al_937 X hK hG rd_937 (i := a9) (x := σ9.2.2.1 937 0 a9) (by omega) rfl dX9_moves_75 ?_
              refine lv_iload hx hb dX9_moves_76 (lv_at hl 6 rfl) ?_
              refine r_top (y := nI (tn (m_to a9 v σ))) (ix_eq c_39) ?_
              refine r_icmp_geN (tgt := 85) hx hb dX9_moves_78 (by decide) (by have := SI_lim hs ha; have := (by unfold m_lim; split <;> decide : m_lim a9 ≤ 11); omega) (by have := (by unfold m_lim; split <;> decide : m_lim a9 ≤ 11); omega) (fun c_78 => ?_) (fun c_78 => ?_)
              · refine lv_iconst (v := (-1)) hx hb dX9_moves_85 (by decide) ?_
                exact r_top (by rw [if_pos c_78]) (J_86 _ _ hG hS)
              · refine lv_iconst (v := nI 1) hx hb dX9_moves_81 (by decide) ?_
                refine lv_goto (tgt := 86) hx hb dX9_moves_82 (by decide) ?_
                exact r_top (by rw [if_neg (Nat.not_le.mpr c_78)]) (J_86 _ _ hG hS)
      · refine lv_iconst (v := nI 1) hx hb dX9_moves_42 (by decide) ?_
        exact rm_ret hx hb hr hlocks hG hS (by unfold m_moves1; rw [if_neg c_39]) (by unfold m_moves1; rw [if_neg c_39]) rfl dX9_moves_43
    · refine lv_iload_n hx hb dX9_moves_24 rfl (lv_at hl 3 rfl) ?_
      refine lv_iconst (v := nI 2) hx hb dX9_moves_25 (by decide) ?_
      refine r_icmp_neN (tgt := 34) hx hb dX9_moves_26 (by decide) (by omega) (by decide) (fun c_26 => ?_) (fun c_26 => ?_)
      · refine lv_bipush (v := nI 11) hx hb dX9_moves_34 (by decide) ?_
        exact r_top (by unfold m_lim; rw [if_pos c_26]) (J_36 _ _ hG hS)
      · refine lv_bipush (v := nI 9) hx hb dX9_moves_29 (by decide) ?_
        refine lv_goto (tgt := 36) hx hb dX9_moves_31 (by decide) ?_
        exact r_top (by unfold m_lim; rw [if_neg (not_not_intro9 c_26)]) (J_36 _ _ hG hS)
  · refine lv_aload_n hx hb dX9_moves_0 rfl (lv_at hl 0 rfl) ?_
    refine gt_X9_178 X hK hG rd_999 (x := σ.2.1 941 0) rfl dX9_moves_1 ?_
    refine lv_if_ne (tgt := 11) hx hb dX9_moves_4 (by decide) (fun c_4 => ?_) (fun c_4 => ?_)
    · refine lv_aload_n hx hb dX9_moves_11 rfl (lv_at hl 0 rfl) ?_
      refine gt_X9_98 X hK hG rd_999 dX9_moves_12 ?_
      refine lv_iload_n hx hb dX9_moves_15 rfl (lv_at hl 2 rfl) ?_
      refine al_937 X hK hG rd_937 (i := a9) (x := σ.2.2.1 937 0 a9) (by omega) rfl dX9_moves_16 ?_
      refine lv_iload_n hx hb dX9_moves_17 rfl (lv_at hl 3 rfl) ?_
      refine lv_iadd hx hb dX9_moves_18 ?_
      exact r_top (by unfold m_to; rw [if_pos c_4]) (J_19 _ _ hG hS)
    · refine lv_iload_n hx hb dX9_moves_7 rfl (lv_at hl 3 rfl) ?_
      refine lv_goto (tgt := 19) hx hb dX9_moves_8 (by decide) ?_
      exact r_top (by unfold m_to; rw [if_neg (not_not_intro9 c_4)]) (J_19 _ _ hG hS)
set_option maxRecDepth 100000 in
set_option maxHeartbeats 4000000 in
theorem c_X9_moves2 {D : va_G} {cI cZ cO : ClassId} (l : Launch) (L : Lay) (σ : St) (ow : Nat → Prop) (p9 a9 : Nat) (v : Int32) (fr : Nat) (hp : p9 < 6) (ha : a9 < 3) (hfr : fr < 100000) (hst : σ.1 943 0 < 90000) (hs0 : SI σ) : RM D cI cZ cO rdom l yX9_moves cX9_moves 8 ((some FieldType.int)) 2 52 [.ref (L 999 0), .int (nI p9), .int (nI a9), .int v, .int (nI fr), .int (nI 2)] L σ ow ((m_moves2 p9 a9 v fr σ).1) ((m_moves2 p9 a9 v fr σ).2) := by
  refine rm_of rfl (Nat.le_of_ble_eq_true rfl) ?_
  intro p e s m below meth c ls X hK hG hr hlocks hl
  have X : CallFix p m c cX9_moves 8 s _ TB RX9 := X
  have hx := X.1
  have hb := X.2.1
  have hS : va_S (AA ow s.heap.size) s.heap s.heap [] := va_S.rf
  have hA : ∀ q, ow q → AA ow s.heap.size q := fun _ h => Or.inl h
  have hl : lv_has ls 8 [(0, .ref (L 999 0)), (1, .int (nI p9)), (2, .int (nI a9)), (3, .int v), (4, .int (nI fr)), (5, .int (nI 2))] := hl
  refine r_cutH 19 [.int (m_to a9 v σ)] hG hS (fun H locs hG hS => ?_) (fun J_19 => ?_)
  · refine lv_istore (lv' := [(6, .int (m_to a9 v σ)), (0, .ref (L 999 0)), (1, .int (nI p9)), (2, .int (nI a9)), (3, .int v), (4, .int (nI fr)), (5, .int (nI 2))]) hx hb dX9_moves_19 hl (by decide) rfl (fun ls hl => ?_)
    refine lv_iload hx hb dX9_moves_21 (lv_at hl 0 rfl) ?_
    refine lv_iconst (v := nI 0) hx hb dX9_moves_23 (by decide) ?_
    refine r_cutH 36 [.int (nI (m_lim a9)), .int (nI 0), .int (m_to a9 v σ)] hG hS (fun H locs hG hS => ?_) (fun J_36 => ?_)
    · refine rm_callS X hK hG hS ysX9_in ml_X9_114 [.int (m_to a9 v σ), .int (nI 0), .int (nI (m_lim a9))] [] (c_X9_in l L σ ow (m_to a9 v σ) (nI 0) (nI (m_lim a9))) rfl hl.1 rfl (Nat.le_of_ble_eq_true rfl) ⟨Nat.le_of_ble_eq_true rfl, Nat.le_of_ble_eq_true rfl⟩ ⟨Nat.zero_le _, Nat.zero_le _⟩ dX9_moves_36 (fun H locs hG hS => ?_)
      refine r_top (y := b2i (ix (m_to a9 v σ) (m_lim a9 + 1))) (b2i_c (rg_z _ (by unfold m_lim; split <;> decide))) ?_
      refine r_if_neB (tgt := 44) hx hb dX9_moves_39 (by decide) (fun c_39 => ?_) (fun c_39 => ?_)
      · refine lv_iconst (v := nI 0) hx hb dX9_moves_44 (by decide) ?_
        refine lv_istore (lv' := [(7, .int (nI 0)), (6, .int (m_to a9 v σ)), (0, .ref (L 999 0)), (1, .int (nI p9)), (2, .int (nI a9)), (3, .int v), (4, .int (nI fr)), (5, .int (nI 2))]) hx hb dX9_moves_45 hl (by decide) rfl (fun ls hl => ?_)
        refine r_loop (ι := Int32 × St) (fun (⟨w9, σ9⟩ : Int32 × St) => [(0, .ref (L 999 0)), (1, .int (nI p9)), (2, .int (nI a9)), (3, .int v), (4, .int (nI fr)), (5, .int (nI 2)), (6, .int (m_to a9 v σ)), (7, .int w9)]) (fun (⟨w9, σ9⟩ : Int32 × St) => σ9) (fun (⟨w9, σ9⟩ : Int32 × St) => (if w9 = 0 then 1 + m_dist (σ9.2.2.1 937 0 a9) (tn (m_to a9 v σ)) else 0)) (fun (⟨w9, σ9⟩ : Int32 × St) => m_mv2 p9 fr a9 (tn (m_to a9 v σ)) (m_dist (σ.2.2.1 937 0 a9) (tn (m_to a9 v σ))) σ = (if w9 = 0 then m_mv2 p9 fr a9 (tn (m_to a9 v σ)) (m_dist (σ9.2.2.1 937 0 a9) (tn (m_to a9 v σ))) σ9 else (w9, σ9)) ∧ SI σ9 ∧ (w9 = 0 → σ9.1 943 0 + m_dist (σ9.2.2.1 937 0 a9) (tn (m_to a9 v σ)) ≤ σ.1 943 0 + m_dist (σ.2.2.1 937 0 a9) (tn (m_to a9 v σ)))) ⟨nI 0, σ⟩ (⟨(if_pos rfl).symm, hs0, fun _ => Nat.le_refl _⟩) hG hS (lv_sub hl [2, 3, 4, 5, 6, 7, 1, 0] rfl) ?_
        rintro ⟨w9, σ9⟩ hinv ih H locs ls hG hS hl
        have hG : PW D cI cZ cO rdom L σ9 ow H := hG
        have hl : lv_has ls 8 [(0, .ref (L 999 0)), (1, .int (nI p9)), (2, .int (nI a9)), (3, .int v), (4, .int (nI fr)), (5, .int (nI 2)), (6, .int (m_to a9 v σ)), (7, .int w9)] := hl
        obtain ⟨hq, hs, hb9⟩ := hinv
        have hto : tn (m_to a9 v σ) ≤ m_lim a9 := Nat.le_of_lt_succ (ix_lt c_39)
        have hd0 : m_dist (σ.2.2.1 937 0 a9) (tn (m_to a9 v σ)) ≤ 11 := by have h1 := SI_lim hs0 ha; have h2 := (by unfold m_lim; split <;> decide : m_lim a9 ≤ 11); unfold m_dist; omega
        refine lv_iload hx hb dX9_moves_47 (lv_at hl 7 rfl) ?_
        refine lv_if_ne (tgt := 102) hx hb dX9_moves_49 (by decide) (fun c_49 => ?_) (fun c_49 => ?_)
        · have hE : m_moves2 p9 a9 v fr σ = (w9, σ9) := by unfold m_moves2; rw [if_pos c_39, hq]; first | exact if_neg c_49 | (rw [if_pos c_49, c_60, show m_dist (tn (m_to a9 v σ)) (tn (m_to a9 v σ)) = 0 from by unfold m_dist; omega, c_49]; rfl)
          refine lv_iload hx hb dX9_moves_102 (lv_at hl 7 rfl) ?_
          exact rm_ret hx hb hr hlocks hG hS (by rw [hE]) (by rw [hE]) rfl dX9_moves_104
        · refine lv_aload_n hx hb dX9_moves_52 rfl (lv_at hl 0 rfl) ?_
          refine gt_X9_98 X hK hG rd_999 dX9_moves_53 ?_
          refine lv_iload_n hx hb dX9_moves_56 rfl (lv_at hl 2 rfl) ?_
          refine al_937 X hK hG rd_937 (i := a9) (x := σ9.2.2.1 937 0 a9) (by omega) rfl dX9_moves_57 ?_
          refine lv_iload hx hb dX9_moves_58 (lv_at hl 6 rfl) ?_
          refine r_top (y := nI (tn (m_to a9 v σ))) (ix_eq c_39) ?_
          have hb3 := hb9 c_49
          refine r_icmp_eqN (tgt := 102) hx hb dX9_moves_60 (by decide) (by have := SI_lim hs ha; have := (by unfold m_lim; split <;> decide : m_lim a9 ≤ 11); omega) (by have := (by unfold m_lim; split <;> decide : m_lim a9 ≤ 11); omega) (fun c_60 => ?_) (fun c_60 => ?_)
          · have hE : m_moves2 p9 a9 v fr σ = (w9, σ9) := by unfold m_moves2; rw [if_pos c_39, hq]; first | exact if_neg c_49 | (rw [if_pos c_49, c_60, show m_dist (tn (m_to a9 v σ)) (tn (m_to a9 v σ)) = 0 from by unfold m_dist; omega, c_49]; rfl)
            refine lv_iload hx hb dX9_moves_102 (lv_at hl 7 rfl) ?_
            exact rm_ret hx hb hr hlocks hG hS (by rw [hE]) (by rw [hE]) rfl dX9_moves_104
          · refine lv_aload_n hx hb dX9_moves_63 rfl (lv_at hl 0 rfl) ?_
            refine gt_X9_98 X hK hG rd_999 dX9_moves_64 ?_
            refine lv_iload_n hx hb dX9_moves_67 rfl (lv_at hl 2 rfl) ?_
            refine lv_dup2_11 hx hb dX9_moves_68 rfl rfl ?_
            refine al_937 X hK hG rd_937 (i := a9) (x := σ9.2.2.1 937 0 a9) (ha) rfl dX9_moves_69 ?_
            refine r_cutH 86 [.int (if tn (m_to a9 v σ) ≤ σ9.2.2.1 937 0 a9 then (-1) else nI 1), .int (nI (σ9.2.2.1 937 0 a9)), .int (nI a9), .ref (L 937 0)] hG hS (fun H locs hG hS => ?_) (fun J_86 => ?_)
            · refine lv_iadd hx hb dX9_moves_86 ?_
              refine r_top (y := nI (m_nx (σ9.2.2.1 937 0 a9) (tn (m_to a9 v σ)))) (stp (by have := SI_lim hs ha; have := (by unfold m_lim; split <;> decide : m_lim a9 ≤ 11); omega) c_60) ?_
              refine as_937 X hK hG hS hA rd_937 (i := a9) (ha) dX9_moves_87 (fun H locs hG hS => ?_)
              refine lv_aload_n hx hb dX9_moves_88 rfl (lv_at hl 0 rfl) ?_
              refine lv_iload_n hx hb dX9_moves_89 rfl (lv_at hl 1 rfl) ?_
              refine lv_iload hx hb dX9_moves_90 (lv_at hl 4 rfl) ?_
              refine lv_iload hx hb dX9_moves_92 (lv_at hl 5 rfl) ?_
              refine rm_callV X hK hG hS yvX9_step ml_X9_181 kX9 rfl rd_999 [.int (nI p9), .int (nI fr), .int (nI 2)] [] (c_X9_step2 l L (wA σ9 937 0 a9 (m_nx (σ9.2.2.1 937 0 a9) (tn (m_to a9 v σ)))) ow p9 fr hp hfr (by show σ9.1 943 0 < 100000; omega) (SI_at hs (nx_lim (SI_lim hs ha) hto c_60))) rfl hl.1 rfl (Nat.le_of_ble_eq_true rfl) ⟨Nat.le_of_ble_eq_true rfl, Nat.le_of_ble_eq_true rfl⟩ ⟨Nat.zero_le _, Nat.zero_le _⟩ dX9_moves_94 (fun H locs hG hS => ?_)
              refine lv_istore (lv' := [(7, .int ((m_step2 p9 fr (wA σ9 937 0 a9 (m_nx (σ9.2.2.1 937 0 a9) (tn (m_to a9 v σ))))).1)), (0, .ref (L 999 0)), (1, .int (nI p9)), (2, .int (nI a9)), (3, .int v), (4, .int (nI fr)), (5, .int (nI 2)), (6, .int (m_to a9 v σ))]) hx hb dX9_moves_97 hl (by decide) rfl (fun ls hl => ?_)
              have hnd := nx_dist c_60
              have hb3 := hb9 c_49
              have hat9 := mv_at2 p9 fr a9 (m_nx (σ9.2.2.1 937 0 a9) (tn (m_to a9 v σ))) σ9
              have hst9 := st_step2 p9 fr (wA σ9 937 0 a9 (m_nx (σ9.2.2.1 937 0 a9) (tn (m_to a9 v σ))))
              have hmu : (if (m_step2 p9 fr (wA σ9 937 0 a9 (m_nx (σ9.2.2.1 937 0 a9) (tn (m_to a9 v σ))))).1 = 0 then 1 + m_dist ((m_step2 p9 fr (wA σ9 937 0 a9 (m_nx (σ9.2.2.1 937 0 a9) (tn (m_to a9 v σ))))).2.2.2.1 937 0 a9) (tn (m_to a9 v σ)) else 0) < (if w9 = 0 then 1 + m_dist (σ9.2.2.1 937 0 a9) (tn (m_to a9 v σ)) else 0) := by rw [if_pos c_49, hat9]; split <;> omega
              have hq2 : m_mv2 p9 fr a9 (tn (m_to a9 v σ)) (m_dist (σ.2.2.1 937 0 a9) (tn (m_to a9 v σ))) σ = (if (m_step2 p9 fr (wA σ9 937 0 a9 (m_nx (σ9.2.2.1 937 0 a9) (tn (m_to a9 v σ))))).1 = 0 then m_mv2 p9 fr a9 (tn (m_to a9 v σ)) (m_dist ((m_step2 p9 fr (wA σ9 937 0 a9 (m_nx (σ9.2.2.1 937 0 a9) (tn (m_to a9 v σ))))).2.2.2.1 937 0 a9) (tn (m_to a9 v σ))) (m_step2 p9 fr (wA σ9 937 0 a9 (m_nx (σ9.2.2.1 937 0 a9) (tn (m_to a9 v σ))))).2 else ((m_step2 p9 fr (wA σ9 937 0 a9 (m_nx (σ9.2.2.1 937 0 a9) (tn (m_to a9 v σ))))).1, (m_step2 p9 fr (wA σ9 937 0 a9 (m_nx (σ9.2.2.1 937 0 a9) (tn (m_to a9 v σ))))).2)) := by rw [hq, if_pos c_49, hat9, ← hnd]; rfl
              have hb2 : (m_step2 p9 fr (wA σ9 937 0 a9 (m_nx (σ9.2.2.1 937 0 a9) (tn (m_to a9 v σ))))).1 = 0 → (m_step2 p9 fr (wA σ9 937 0 a9 (m_nx (σ9.2.2.1 937 0 a9) (tn (m_to a9 v σ))))).2.1 943 0 + m_dist ((m_step2 p9 fr (wA σ9 937 0 a9 (m_nx (σ9.2.2.1 937 0 a9) (tn (m_to a9 v σ))))).2.2.2.1 937 0 a9) (tn (m_to a9 v σ)) ≤ σ.1 943 0 + m_dist (σ.2.2.1 937 0 a9) (tn (m_to a9 v σ)) := fun _ => by rw [hat9]; have h7 : (wA σ9 937 0 a9 (m_nx (σ9.2.2.1 937 0 a9) (tn (m_to a9 v σ)))).1 943 0 = σ9.1 943 0 := rfl; omega
              refine lv_goto (tgt := 47) hx hb dX9_moves_99 (by decide) ?_
              exact ih ⟨(m_step2 p9 fr (wA σ9 937 0 a9 (m_nx (σ9.2.2.1 937 0 a9) (tn (m_to a9 v σ))))).1, (m_step2 p9 fr (wA σ9 937 0 a9 (m_nx (σ9.2.2.1 937 0 a9) (tn (m_to a9 v σ))))).2⟩ (hmu) (⟨hq2, SI_step2 (SI_at hs (nx_lim (SI_lim hs ha) hto c_60)) _ _, hb2⟩) H locs ls hG hS (lv_sub hl [1, 2, 3, 4, 5, 6, 7, 0] rfl)
            · refine lv_aload_n hx hb dX9_moves_70 rfl (lv_at hl 0 rfl) ?_
              refine gt_X9_98 X hK hG rd_999 dX9_moves_71 ?_
              refine lv_iload_n hx hb dX9_moves_74 rfl (lv_at hl 2 rfl) ?_
              refine al_937 X hK hG rd_937 (i := a9) (x := σ9.2.2.1 937 0 a9) (by omega) rfl dX9_moves_75 ?_
              refine lv_iload hx hb dX9_moves_76 (lv_at hl 6 rfl) ?_
              refine r_top (y := nI (tn (m_to a9 v σ))) (ix_eq c_39) ?_
              refine r_icmp_geN (tgt := 85) hx hb dX9_moves_78 (by decide) (by have := SI_lim hs ha; have := (by unfold m_lim; split <;> decide : m_lim a9 ≤ 11); omega) (by have := (by unfold m_lim; split <;> decide : m_lim a9 ≤ 11); omega) (fun c_78 => ?_) (fun c_78 => ?_)
              · refine lv_iconst (v := (-1)) hx hb dX9_moves_85 (by decide) ?_
                exact r_top (by rw [if_pos c_78]) (J_86 _ _ hG hS)
              · refine lv_iconst (v := nI 1) hx hb dX9_moves_81 (by decide) ?_
                refine lv_goto (tgt := 86) hx hb dX9_moves_82 (by decide) ?_
                exact r_top (by rw [if_neg (Nat.not_le.mpr c_78)]) (J_86 _ _ hG hS)
      · refine lv_iconst (v := nI 1) hx hb dX9_moves_42 (by decide) ?_
        exact rm_ret hx hb hr hlocks hG hS (by unfold m_moves2; rw [if_neg c_39]) (by unfold m_moves2; rw [if_neg c_39]) rfl dX9_moves_43
    · refine lv_iload_n hx hb dX9_moves_24 rfl (lv_at hl 3 rfl) ?_
      refine lv_iconst (v := nI 2) hx hb dX9_moves_25 (by decide) ?_
      refine r_icmp_neN (tgt := 34) hx hb dX9_moves_26 (by decide) (by omega) (by decide) (fun c_26 => ?_) (fun c_26 => ?_)
      · refine lv_bipush (v := nI 11) hx hb dX9_moves_34 (by decide) ?_
        exact r_top (by unfold m_lim; rw [if_pos c_26]) (J_36 _ _ hG hS)
      · refine lv_bipush (v := nI 9) hx hb dX9_moves_29 (by decide) ?_
        refine lv_goto (tgt := 36) hx hb dX9_moves_31 (by decide) ?_
        exact r_top (by unfold m_lim; rw [if_neg (not_not_intro9 c_26)]) (J_36 _ _ hG hS)
  · refine lv_aload_n hx hb dX9_moves_0 rfl (lv_at hl 0 rfl) ?_
    refine gt_X9_178 X hK hG rd_999 (x := σ.2.1 941 0) rfl dX9_moves_1 ?_
    refine lv_if_ne (tgt := 11) hx hb dX9_moves_4 (by decide) (fun c_4 => ?_) (fun c_4 => ?_)
    · refine lv_aload_n hx hb dX9_moves_11 rfl (lv_at hl 0 rfl) ?_
      refine gt_X9_98 X hK hG rd_999 dX9_moves_12 ?_
      refine lv_iload_n hx hb dX9_moves_15 rfl (lv_at hl 2 rfl) ?_
      refine al_937 X hK hG rd_937 (i := a9) (x := σ.2.2.1 937 0 a9) (by omega) rfl dX9_moves_16 ?_
      refine lv_iload_n hx hb dX9_moves_17 rfl (lv_at hl 3 rfl) ?_
      refine lv_iadd hx hb dX9_moves_18 ?_
      exact r_top (by unfold m_to; rw [if_pos c_4]) (J_19 _ _ hG hS)
    · refine lv_iload_n hx hb dX9_moves_7 rfl (lv_at hl 3 rfl) ?_
      refine lv_goto (tgt := 19) hx hb dX9_moves_8 (by decide) ?_
      exact r_top (by unfold m_to; rw [if_neg (not_not_intro9 c_4)]) (J_19 _ _ hG hS)
def m_sets (w v : Int32) (σ : St) : Int32 × St := if ¬ w = (nI 5) then (nI 0, (wI (wI (wI σ 940 0 (if ¬ w = 0 then σ.2.1 940 0 else v)) 941 0 (if ¬ w = nI 1 then σ.2.1 941 0 else v)) 942 0 (if ¬ w = nI 5 then σ.2.1 942 0 else v))) else (if (σ.2.2.1 937 0 2) = 9 then (nI 0, (wI (wI (wI σ 940 0 (if ¬ w = 0 then σ.2.1 940 0 else v)) 941 0 (if ¬ w = nI 1 then σ.2.1 941 0 else v)) 942 0 (if ¬ w = nI 5 then σ.2.1 942 0 else v))) else (nI 2, σ))
set_option maxRecDepth 100000 in
set_option maxHeartbeats 4000000 in
theorem c_X9_sets {D : va_G} {cI cZ cO : ClassId} (l : Launch) (L : Lay) (σ : St) (ow : Nat → Prop) (w v : Int32) (h2 : σ.2.2.1 937 0 2 < 2147483648) : RM D cI cZ cO rdom l yX9_sets cX9_sets 3 ((some FieldType.int)) 0 0 [.ref (L 999 0), .int w, .int v] L σ ow ((m_sets w v σ).1) ((m_sets w v σ).2) := by
  refine rm_of rfl (Nat.le_of_ble_eq_true rfl) ?_
  intro p e s m below meth c ls X hK hG hr hlocks hl
  have X : CallFix p m c cX9_sets 3 s _ TB RX9 := X
  have hx := X.1
  have hb := X.2.1
  have hS : va_S (AA ow s.heap.size) s.heap s.heap [] := va_S.rf
  have hA : ∀ q, ow q → AA ow s.heap.size q := fun _ h => Or.inl h
  have hl : lv_has ls 3 [(0, .ref (L 999 0)), (1, .int w), (2, .int v)] := hl
  refine lv_iload_n hx hb dX9_sets_0 rfl (lv_at hl 1 rfl) ?_
  refine lv_iconst (v := nI 5) hx hb dX9_sets_1 (by decide) ?_
  refine lv_icmp_ne (tgt := 18) hx hb dX9_sets_2 (by decide) (fun c_2 => ?_) (fun c_2 => ?_)
  · refine lv_aload_n hx hb dX9_sets_18 rfl (lv_at hl 0 rfl) ?_
    refine r_cutH 31 [.int (if ¬ w = 0 then σ.2.1 940 0 else v), .ref (L 999 0)] hG hS (fun H locs hG hS => ?_) (fun J_31 => ?_)
    · refine pt_X9_164 X hK hG hS hA rd_999 dX9_sets_31 (fun H locs hG hS => ?_)
      refine lv_aload_n hx hb dX9_sets_34 rfl (lv_at hl 0 rfl) ?_
      refine r_cutH 48 [.int (if ¬ w = nI 1 then σ.2.1 941 0 else v), .ref (L 999 0)] hG hS (fun H locs hG hS => ?_) (fun J_48 => ?_)
      · refine pt_X9_178 X hK hG hS hA rd_999 dX9_sets_48 (fun H locs hG hS => ?_)
        refine lv_aload_n hx hb dX9_sets_51 rfl (lv_at hl 0 rfl) ?_
        refine r_cutH 65 [.int (if ¬ w = nI 5 then σ.2.1 942 0 else v), .ref (L 999 0)] hG hS (fun H locs hG hS => ?_) (fun J_65 => ?_)
        · refine pt_X9_167 X hK hG hS hA rd_999 dX9_sets_65 (fun H locs hG hS => ?_)
          refine lv_iconst (v := nI 0) hx hb dX9_sets_68 (by decide) ?_
          exact rm_ret hx hb hr hlocks hG hS (by unfold m_sets; first | (rw [if_pos c_2] <;> rfl) | simp only [if_pos c_2]) (by unfold m_sets; first | (rw [if_pos c_2] <;> rfl) | simp only [if_pos c_2]) rfl dX9_sets_69
        · refine lv_iload_n hx hb dX9_sets_52 rfl (lv_at hl 1 rfl) ?_
          refine lv_iconst (v := nI 5) hx hb dX9_sets_53 (by decide) ?_
          refine lv_icmp_ne (tgt := 61) hx hb dX9_sets_54 (by decide) (fun c_54 => ?_) (fun c_54 => (by first | exact absurd c_2 c_54 | exact absurd c_54 c_2 | omega))
          refine lv_aload_n hx hb dX9_sets_61 rfl (lv_at hl 0 rfl) ?_
          refine gt_X9_167 X hK hG rd_999 (x := σ.2.1 942 0) rfl dX9_sets_62 ?_
          exact r_top (by rw [if_pos c_54]) (J_65 _ _ hG hS)
      · refine lv_iload_n hx hb dX9_sets_35 rfl (lv_at hl 1 rfl) ?_
        refine lv_iconst (v := nI 1) hx hb dX9_sets_36 (by decide) ?_
        refine lv_icmp_ne (tgt := 44) hx hb dX9_sets_37 (by decide) (fun c_37 => ?_) (fun c_37 => ?_)
        · refine lv_aload_n hx hb dX9_sets_44 rfl (lv_at hl 0 rfl) ?_
          refine gt_X9_178 X hK hG rd_999 (x := σ.2.1 941 0) rfl dX9_sets_45 ?_
          exact r_top (by rw [if_pos c_37]) (J_48 _ _ hG hS)
        · refine lv_iload_n hx hb dX9_sets_40 rfl (lv_at hl 2 rfl) ?_
          refine lv_goto (tgt := 48) hx hb dX9_sets_41 (by decide) ?_
          exact r_top (by rw [if_neg (not_not_intro9 c_37)]) (J_48 _ _ hG hS)
    · refine lv_iload_n hx hb dX9_sets_19 rfl (lv_at hl 1 rfl) ?_
      refine lv_if_ne (tgt := 27) hx hb dX9_sets_20 (by decide) (fun c_20 => ?_) (fun c_20 => ?_)
      · refine lv_aload_n hx hb dX9_sets_27 rfl (lv_at hl 0 rfl) ?_
        refine gt_X9_164 X hK hG rd_999 (x := σ.2.1 940 0) rfl dX9_sets_28 ?_
        exact r_top (by rw [if_pos c_20]) (J_31 _ _ hG hS)
      · refine lv_iload_n hx hb dX9_sets_23 rfl (lv_at hl 2 rfl) ?_
        refine lv_goto (tgt := 31) hx hb dX9_sets_24 (by decide) ?_
        exact r_top (by rw [if_neg (not_not_intro9 c_20)]) (J_31 _ _ hG hS)
  · refine lv_aload_n hx hb dX9_sets_5 rfl (lv_at hl 0 rfl) ?_
    refine gt_X9_98 X hK hG rd_999 dX9_sets_6 ?_
    refine lv_iconst (v := nI 2) hx hb dX9_sets_9 (by decide) ?_
    refine al_937 X hK hG rd_937 (i := 2) (x := σ.2.2.1 937 0 2) (by decide) rfl dX9_sets_10 ?_
    refine lv_bipush (v := nI 9) hx hb dX9_sets_11 (by decide) ?_
    refine r_icmp_eqN (tgt := 18) hx hb dX9_sets_13 (by decide) (by omega) (by omega) (fun c_13 => ?_) (fun c_13 => ?_)
    · refine lv_aload_n hx hb dX9_sets_18 rfl (lv_at hl 0 rfl) ?_
      refine r_cutH 31 [.int (if ¬ w = 0 then σ.2.1 940 0 else v), .ref (L 999 0)] hG hS (fun H locs hG hS => ?_) (fun J_31 => ?_)
      · refine pt_X9_164 X hK hG hS hA rd_999 dX9_sets_31 (fun H locs hG hS => ?_)
        refine lv_aload_n hx hb dX9_sets_34 rfl (lv_at hl 0 rfl) ?_
        refine r_cutH 48 [.int (if ¬ w = nI 1 then σ.2.1 941 0 else v), .ref (L 999 0)] hG hS (fun H locs hG hS => ?_) (fun J_48 => ?_)
        · refine pt_X9_178 X hK hG hS hA rd_999 dX9_sets_48 (fun H locs hG hS => ?_)
          refine lv_aload_n hx hb dX9_sets_51 rfl (lv_at hl 0 rfl) ?_
          refine r_cutH 65 [.int (if ¬ w = nI 5 then σ.2.1 942 0 else v), .ref (L 999 0)] hG hS (fun H locs hG hS => ?_) (fun J_65 => ?_)
          · refine pt_X9_167 X hK hG hS hA rd_999 dX9_sets_65 (fun H locs hG hS => ?_)
            refine lv_iconst (v := nI 0) hx hb dX9_sets_68 (by decide) ?_
            exact rm_ret hx hb hr hlocks hG hS (by unfold m_sets; first | (rw [if_neg (not_not_intro9 c_2), if_pos c_13] <;> rfl) | simp only [if_neg (not_not_intro9 c_2), if_pos c_13]) (by unfold m_sets; first | (rw [if_neg (not_not_intro9 c_2), if_pos c_13] <;> rfl) | simp only [if_neg (not_not_intro9 c_2), if_pos c_13]) rfl dX9_sets_69
          · refine lv_iload_n hx hb dX9_sets_52 rfl (lv_at hl 1 rfl) ?_
            refine lv_iconst (v := nI 5) hx hb dX9_sets_53 (by decide) ?_
            refine lv_icmp_ne (tgt := 61) hx hb dX9_sets_54 (by decide) (fun c_54 => (by first | exact absurd c_2 c_54 | exact absurd c_54 c_2 | omega)) (fun c_54 => ?_)
            refine lv_iload_n hx hb dX9_sets_57 rfl (lv_at hl 2 rfl) ?_
            refine lv_goto (tgt := 65) hx hb dX9_sets_58 (by decide) ?_
            exact r_top (by rw [if_neg (not_not_intro9 c_54)]) (J_65 _ _ hG hS)
        · refine lv_iload_n hx hb dX9_sets_35 rfl (lv_at hl 1 rfl) ?_
          refine lv_iconst (v := nI 1) hx hb dX9_sets_36 (by decide) ?_
          refine lv_icmp_ne (tgt := 44) hx hb dX9_sets_37 (by decide) (fun c_37 => ?_) (fun c_37 => ?_)
          · refine lv_aload_n hx hb dX9_sets_44 rfl (lv_at hl 0 rfl) ?_
            refine gt_X9_178 X hK hG rd_999 (x := σ.2.1 941 0) rfl dX9_sets_45 ?_
            exact r_top (by rw [if_pos c_37]) (J_48 _ _ hG hS)
          · refine lv_iload_n hx hb dX9_sets_40 rfl (lv_at hl 2 rfl) ?_
            refine lv_goto (tgt := 48) hx hb dX9_sets_41 (by decide) ?_
            exact r_top (by rw [if_neg (not_not_intro9 c_37)]) (J_48 _ _ hG hS)
      · refine lv_iload_n hx hb dX9_sets_19 rfl (lv_at hl 1 rfl) ?_
        refine lv_if_ne (tgt := 27) hx hb dX9_sets_20 (by decide) (fun c_20 => ?_) (fun c_20 => ?_)
        · refine lv_aload_n hx hb dX9_sets_27 rfl (lv_at hl 0 rfl) ?_
          refine gt_X9_164 X hK hG rd_999 (x := σ.2.1 940 0) rfl dX9_sets_28 ?_
          exact r_top (by rw [if_pos c_20]) (J_31 _ _ hG hS)
        · refine lv_iload_n hx hb dX9_sets_23 rfl (lv_at hl 2 rfl) ?_
          refine lv_goto (tgt := 31) hx hb dX9_sets_24 (by decide) ?_
          exact r_top (by rw [if_neg (not_not_intro9 c_20)]) (J_31 _ _ hG hS)
    · refine lv_iconst (v := nI 2) hx hb dX9_sets_16 (by decide) ?_
      exact rm_ret hx hb hr hlocks hG hS (by unfold m_sets; first | (rw [if_neg (not_not_intro9 c_2), if_neg c_13] <;> rfl) | simp only [if_neg (not_not_intro9 c_2), if_neg c_13]) (by unfold m_sets; first | (rw [if_neg (not_not_intro9 c_2), if_neg c_13] <;> rfl) | simp only [if_neg (not_not_intro9 c_2), if_neg c_13]) rfl dX9_sets_17
