/-- the paper's first entries -/
def m_jx (p9 d9 g9 : Int32) (σ : St) : St := (wB (wB (wB (wB (wB (m_g (ix p9 (σ.1 924 0) ∧ (ix d9 (σ.1 932 0) ∧ ix g9 4)) ((ix p9 (σ.1 924 0) ∧ (ix d9 (σ.1 932 0) ∧ ix g9 4)) ∧ σ.2.2.2 920 0 (tn p9) = nI 2 ∧ 0 < σ.2.2.1 931 0 (tn d9) ∧ ¬ σ.2.2.2 928 0 (tn g9) = 0 ∧ σ.1 900 0 < σ.2.2.1 927 0 (tn g9) + 1000 ∧ σ.1 934 0 < 30) (True) σ) 933 0 (18 * (σ.1 934 0)) p9) 933 0 ((18 * (σ.1 934 0)) + 1) d9) 933 0 ((18 * (σ.1 934 0)) + 3) (nI (σ.1 900 0))) 933 0 ((18 * (σ.1 934 0)) + 4) (σ.2.2.2 929 0 (tn g9))) 933 0 ((18 * (σ.1 934 0)) + 17) (nI (σ.2.2.1 931 0 (tn d9))))
theorem jx_N (p9 d9 g9 : Int32) (σ : St) : (m_jx p9 d9 g9 σ).1 = σ.1 := rfl
theorem jx_A (p9 d9 g9 : Int32) (σ : St) : (m_jx p9 d9 g9 σ).2.2.1 = σ.2.2.1 := rfl
theorem jx_B (F : Nat) (h : F ≠ 933) (p9 d9 g9 : Int32) (σ : St) : (m_jx p9 d9 g9 σ).2.2.2 F = σ.2.2.2 F := by
  have f : FRm [] [944] [] [933] σ (m_jx p9 d9 g9 σ) := by
    unfold m_jx m_g
    repeat' first | exact FRm.rf | refine FRm.I ?_ (by decide) | refine FRm.B ?_ (by decide)
  exact f.2.2.2 F (by simpa using h)
theorem jx_17 (p9 d9 g9 : Int32) (σ : St) : (m_jx p9 d9 g9 σ).2.2.2 933 0 (18 * σ.1 934 0 + 17) = nI (σ.2.2.1 931 0 (tn d9)) := by
  unfold m_jx
  rw [wB_s, up1_s]
def m_jst (P D G M k : Nat) (σ : St) : St := if (σ.2.2.2 917 0 (((144 * (P)) + (12 * (σ.2.2.1 930 0 ((6 * ((6 * (D)) + k)) + 1)))) + (σ.2.2.1 930 0 (6 * ((6 * (D)) + k))))) = (-1) then (wA (wB (wB σ 933 0 (((18 * (M)) + 5) + k) (((msz (((144 * (P)) + (12 * (σ.2.2.1 930 0 ((6 * ((6 * (D)) + k)) + 1)))) + (σ.2.2.1 930 0 (6 * ((6 * (D)) + k)))) σ) + (((nI (σ.1 900 0)) - (nI (σ.2.2.1 927 0 (G)))) / (nI 100))) - (nI (1000 * (σ.2.2.1 930 0 ((6 * ((6 * (D)) + k)) + 2)))))) 933 0 (((18 * (M)) + 11) + k) (nI ((σ.2.2.1 930 0 ((6 * ((6 * (D)) + k)) + 3)) + (if σ.2.2.1 930 0 (6 * (6 * D + k) + 5) = 0 then 0 else σ.2.2.1 930 0 (6 * (6 * D + k) + 4))))) 930 0 ((6 * ((6 * (D)) + k)) + 5) ((σ.2.2.1 930 0 ((6 * ((6 * (D)) + k)) + 5)) - (if σ.2.2.1 930 0 (6 * (6 * D + k) + 5) = 0 then 0 else 1))) else (m_tells (tn (σ.2.2.2 917 0 ((144 * (P)) + (12 * (σ.2.2.1 930 0 ((6 * (6 * D + k)) + 1))) + (σ.2.2.1 930 0 (6 * (6 * D + k)))))) (((msz (((144 * (P)) + (12 * (σ.2.2.1 930 0 ((6 * ((6 * (D)) + k)) + 1)))) + (σ.2.2.1 930 0 (6 * ((6 * (D)) + k)))) σ) + (((nI (σ.1 900 0)) - (nI (σ.2.2.1 927 0 (G)))) / (nI 100))) - (nI (1000 * (σ.2.2.1 930 0 ((6 * ((6 * (D)) + k)) + 2))))) (wA (wB (wB σ 933 0 (((18 * (M)) + 5) + k) (((msz (((144 * (P)) + (12 * (σ.2.2.1 930 0 ((6 * ((6 * (D)) + k)) + 1)))) + (σ.2.2.1 930 0 (6 * ((6 * (D)) + k)))) σ) + (((nI (σ.1 900 0)) - (nI (σ.2.2.1 927 0 (G)))) / (nI 100))) - (nI (1000 * (σ.2.2.1 930 0 ((6 * ((6 * (D)) + k)) + 2)))))) 933 0 (((18 * (M)) + 11) + k) (nI ((σ.2.2.1 930 0 ((6 * ((6 * (D)) + k)) + 3)) + (if σ.2.2.1 930 0 (6 * (6 * D + k) + 5) = 0 then 0 else σ.2.2.1 930 0 (6 * (6 * D + k) + 4))))) 930 0 ((6 * ((6 * (D)) + k)) + 5) ((σ.2.2.1 930 0 ((6 * ((6 * (D)) + k)) + 5)) - (if σ.2.2.1 930 0 (6 * (6 * D + k) + 5) = 0 then 0 else 1))))
def m_jl (P D G M : Nat) : Nat → St → St
  | 0, σ => σ
  | k + 1, σ => m_jst P D G M k (m_jl P D G M k σ)
theorem jst_fr (P D G M k : Nat) (σ : St) : FRm [] [] [930, 913] [933, 912] σ (m_jst P D G M k σ) := by
  unfold m_jst m_tells
  split
  all_goals (repeat' first | exact FRm.rf | refine FRm.A ?_ (by decide) | refine FRm.B ?_ (by decide))
theorem jst_a (P D G M k : Nat) (σ : St) : (m_jst P D G M k σ).2.2.1 930 0 = up1 (σ.2.2.1 930 0) (6 * (6 * D + k) + 5) (σ.2.2.1 930 0 (6 * (6 * D + k) + 5) - (if σ.2.2.1 930 0 (6 * (6 * D + k) + 5) = 0 then 0 else 1)) := by
  unfold m_jst m_tells
  split
  · rw [wA_s]; rfl
  · show (wA _ 930 0 _ _).2.2.1 930 0 = _
    rw [wA_s]; rfl
theorem jst_q (P D G M k : Nat) (σ : St) (hk : k < 6) : (m_jst P D G M k σ).2.2.2 933 0 (18 * M + 17) = σ.2.2.2 933 0 (18 * M + 17) := by
  have h : ∀ (X Y : Int32) (j1 j2 : Nat), ¬ 18 * M + 17 = j1 → ¬ 18 * M + 17 = j2 → (wB (wB σ 933 0 j1 X) 933 0 j2 Y).2.2.2 933 0 (18 * M + 17) = σ.2.2.2 933 0 (18 * M + 17) := fun X Y j1 j2 h1 h2 => by rw [wB_s, up1_n h2, wB_s, up1_n h1]
  unfold m_jst m_tells
  split
  · exact h _ _ _ _ (by omega) (by omega)
  · exact h _ _ _ _ (by omega) (by omega)
theorem jl_nx {P D G M k n : Nat} {σ X σ9 Y : St} {v : Int32} (hq : σ9 = m_jl P D G M k X) (hk : k ≤ n) (hfr : FRm [] [] [930, 913] [933, 912] X σ9) (hxa : ∀ i, ¬ i % 6 = 5 → σ9.2.2.1 930 0 i = σ.2.2.1 930 0 i) (hxl : ∀ i, σ9.2.2.1 930 0 i ≤ σ.2.2.1 930 0 i) (h17 : σ9.2.2.2 933 0 (18 * M + 17) = v) (h6 : n ≤ 6) (hkn : k < n) (hY : Y = m_jl P D G M (k + 1) X) :
    Y = m_jl P D G M (k + 1) X ∧ k + 1 ≤ n ∧ FRm [] [] [930, 913] [933, 912] X Y ∧ (∀ i, ¬ i % 6 = 5 → Y.2.2.1 930 0 i = σ.2.2.1 930 0 i) ∧ (∀ i, Y.2.2.1 930 0 i ≤ σ.2.2.1 930 0 i) ∧ Y.2.2.2 933 0 (18 * M + 17) = v := by
  have e : Y = m_jst P D G M k σ9 := by rw [hY, hq]; rfl
  refine ⟨hY, hkn, ?_, fun i hi => ?_, fun i => ?_, ?_⟩
  · rw [e]; exact hfr.tr (jst_fr _ _ _ _ _ _)
  · rw [e, jst_a, up1_n (by omega)]; exact hxa i hi
  · rw [e, jst_a]
    unfold up1
    split
    · rename_i z; subst z
      exact Nat.le_trans (Nat.sub_le _ _) (hxl _)
    · exact hxl i
  · rw [e, jst_q _ _ _ _ _ _ (by omega)]; exact h17
def m_judge (p9 d9 g9 : Int32) (σ : St) : Int32 × St := if (ix p9 (σ.1 924 0) ∧ (ix d9 (σ.1 932 0) ∧ ix g9 4)) ∧ ((ix p9 (σ.1 924 0) ∧ (ix d9 (σ.1 932 0) ∧ ix g9 4)) ∧ σ.2.2.2 920 0 (tn p9) = nI 2 ∧ 0 < σ.2.2.1 931 0 (tn d9) ∧ ¬ σ.2.2.2 928 0 (tn g9) = 0 ∧ σ.1 900 0 < σ.2.2.1 927 0 (tn g9) + 1000 ∧ σ.1 934 0 < 30) ∧ (True) then (nI (((σ.1 934 0) + 1) - 1), (wB (wB (wN (m_jl (tn p9) (tn d9) (tn g9) (σ.1 934 0) (σ.2.2.1 931 0 (tn d9)) (m_jx p9 d9 g9 σ)) 934 0 ((σ.1 934 0) + 1)) 933 0 ((18 * (σ.1 934 0)) + 2) (vdl (vdf (σ.1 934 0) (wN (m_jl (tn p9) (tn d9) (tn g9) (σ.1 934 0) (σ.2.2.1 931 0 (tn d9)) (m_jx p9 d9 g9 σ)) 934 0 ((σ.1 934 0) + 1))) (σ.2.2.1 931 0 (tn d9)))) 923 0 (tn p9) (vdl (vdf (σ.1 934 0) (wN (m_jl (tn p9) (tn d9) (tn g9) (σ.1 934 0) (σ.2.2.1 931 0 (tn d9)) (m_jx p9 d9 g9 σ)) 934 0 ((σ.1 934 0) + 1))) (σ.2.2.1 931 0 (tn d9))))) else (nI 0, (m_g (ix p9 (σ.1 924 0) ∧ (ix d9 (σ.1 932 0) ∧ ix g9 4)) ((ix p9 (σ.1 924 0) ∧ (ix d9 (σ.1 932 0) ∧ ix g9 4)) ∧ σ.2.2.2 920 0 (tn p9) = nI 2 ∧ 0 < σ.2.2.1 931 0 (tn d9) ∧ ¬ σ.2.2.2 928 0 (tn g9) = 0 ∧ σ.1 900 0 < σ.2.2.1 927 0 (tn g9) + 1000 ∧ σ.1 934 0 < 30) (True) σ))
set_option maxRecDepth 100000 in
set_option maxHeartbeats 4000000 in
theorem c_X9_judge {D : va_G} {cI cZ cO : ClassId} (l : Launch) (L : Lay) (σ : St) (ow : Nat → Prop) (p9 d9 g9 : Int32) (hQ30 : σ.1 934 0 ≤ 30) (hP6 : σ.1 924 0 ≤ 6) (hD4 : σ.1 932 0 ≤ 4) (hm9 : σ.1 900 0 < 2000000000) (hc9 : ∀ k, σ.2.2.1 927 0 k < 2000000000) (h931 : ∀ k, σ.2.2.1 931 0 k ≤ 6) (hft : ∀ i, σ.2.2.1 930 0 i < 1000000) (hxy : ∀ i, i < 24 → σ.2.2.1 930 0 (6 * i) < 12 ∧ σ.2.2.1 930 0 (6 * i + 1) < 12) (hcut : ∀ i, i < 864 → σ.2.2.2 917 0 i = (-1) ∨ ix (σ.2.2.2 917 0 i) 16) : RM D cI cZ cO rdom l yX9_judge cX9_judge 11 ((some FieldType.int)) 2 46 [.ref (L 999 0), .int p9, .int d9, .int g9] L σ ow ((m_judge p9 d9 g9 σ).1) ((m_judge p9 d9 g9 σ).2) := by
  refine rm_of rfl (Nat.le_of_ble_eq_true rfl) ?_
  intro p e s m below meth c ls X hK hG hr hlocks hl
  have X : CallFix p m c cX9_judge 11 s _ TB RX9 := X
  have hx := X.1
  have hb := X.2.1
  have hS : va_S (AA ow s.heap.size) s.heap s.heap [] := va_S.rf
  have hA : ∀ q, ow q → AA ow s.heap.size q := fun _ h => Or.inl h
  have hl : lv_has ls 11 [(0, .ref (L 999 0)), (1, .int p9), (2, .int d9), (3, .int g9)] := hl
  refine r_cutH 28 [.int (b2i (ix p9 (σ.1 924 0) ∧ (ix d9 (σ.1 932 0) ∧ ix g9 4)))] hG hS (fun H locs hG hS => ?_) (fun J_28 => ?_)
  · refine lv_istore (lv' := [(4, .int (b2i (ix p9 (σ.1 924 0) ∧ (ix d9 (σ.1 932 0) ∧ ix g9 4)))), (0, .ref (L 999 0)), (1, .int p9), (2, .int d9), (3, .int g9)]) hx hb dX9_judge_28 hl (by decide) rfl (fun ls hl => ?_)
    refine r_cutH 94 [.int (b2i ((ix p9 (σ.1 924 0) ∧ (ix d9 (σ.1 932 0) ∧ ix g9 4)) ∧ σ.2.2.2 920 0 (tn p9) = nI 2 ∧ 0 < σ.2.2.1 931 0 (tn d9) ∧ ¬ σ.2.2.2 928 0 (tn g9) = 0 ∧ σ.1 900 0 < σ.2.2.1 927 0 (tn g9) + 1000 ∧ σ.1 934 0 < 30))] hG hS (fun H locs hG hS => ?_) (fun J_94 => ?_)
    · refine lv_istore (lv' := [(5, .int (b2i ((ix p9 (σ.1 924 0) ∧ (ix d9 (σ.1 932 0) ∧ ix g9 4)) ∧ σ.2.2.2 920 0 (tn p9) = nI 2 ∧ 0 < σ.2.2.1 931 0 (tn d9) ∧ ¬ σ.2.2.2 928 0 (tn g9) = 0 ∧ σ.1 900 0 < σ.2.2.1 927 0 (tn g9) + 1000 ∧ σ.1 934 0 < 30))), (4, .int (b2i (ix p9 (σ.1 924 0) ∧ (ix d9 (σ.1 932 0) ∧ ix g9 4)))), (0, .ref (L 999 0)), (1, .int p9), (2, .int d9), (3, .int g9)]) hx hb dX9_judge_94 hl (by decide) rfl (fun ls hl => ?_)
      refine lv_aload_n hx hb dX9_judge_96 rfl (lv_at hl 2 rfl) ?_
      refine lv_iload hx hb dX9_judge_97 (lv_at hl 1 rfl) ?_
      refine lv_iload hx hb dX9_judge_99 (lv_at hl 0 rfl) ?_
      refine lv_iconst (v := nI 1) hx hb dX9_judge_101 (by decide) ?_
      refine rm_callV X hK hG hS yvX9_goes ml_X9_127 kX9 rfl rd_999 [.int (b2i (ix p9 (σ.1 924 0) ∧ (ix d9 (σ.1 932 0) ∧ ix g9 4))), .int (b2i ((ix p9 (σ.1 924 0) ∧ (ix d9 (σ.1 932 0) ∧ ix g9 4)) ∧ σ.2.2.2 920 0 (tn p9) = nI 2 ∧ 0 < σ.2.2.1 931 0 (tn d9) ∧ ¬ σ.2.2.2 928 0 (tn g9) = 0 ∧ σ.1 900 0 < σ.2.2.1 927 0 (tn g9) + 1000 ∧ σ.1 934 0 < 30)), .int (nI 1)] [] (c_X9_goes l L σ ow (ix p9 (σ.1 924 0) ∧ (ix d9 (σ.1 932 0) ∧ ix g9 4)) ((ix p9 (σ.1 924 0) ∧ (ix d9 (σ.1 932 0) ∧ ix g9 4)) ∧ σ.2.2.2 920 0 (tn p9) = nI 2 ∧ 0 < σ.2.2.1 931 0 (tn d9) ∧ ¬ σ.2.2.2 928 0 (tn g9) = 0 ∧ σ.1 900 0 < σ.2.2.1 927 0 (tn g9) + 1000 ∧ σ.1 934 0 < 30) (True)) rfl hl.1 rfl (Nat.le_of_ble_eq_true rfl) ⟨Nat.le_of_ble_eq_true rfl, Nat.le_of_ble_eq_true rfl⟩ ⟨Nat.zero_le _, Nat.zero_le _⟩ dX9_judge_102 (fun H locs hG hS => ?_)
      refine r_if_neB (tgt := 110) hx hb dX9_judge_105 (by decide) (fun c_105 => ?_) (fun c_105 => ?_)
      · have hp9 := ix_lt c_105.1.1
        have hd9 := ix_lt c_105.1.2.1
        have hg9 := ix_lt c_105.1.2.2
        have hM := c_105.2.1.2.2.2.2.2
        refine lv_bipush (v := nI 18) hx hb dX9_judge_110 (by decide) ?_
        refine lv_aload_n hx hb dX9_judge_112 rfl (lv_at hl 2 rfl) ?_
        refine gt_X9_208 X hK hG rd_999 (x := σ.1 934 0) rfl dX9_judge_113 ?_
        refine r_mulN hx hb dX9_judge_116 ?_
        refine lv_istore (lv' := [(6, .int (nI (18 * (σ.1 934 0)))), (5, .int (b2i ((ix p9 (σ.1 924 0) ∧ (ix d9 (σ.1 932 0) ∧ ix g9 4)) ∧ σ.2.2.2 920 0 (tn p9) = nI 2 ∧ 0 < σ.2.2.1 931 0 (tn d9) ∧ ¬ σ.2.2.2 928 0 (tn g9) = 0 ∧ σ.1 900 0 < σ.2.2.1 927 0 (tn g9) + 1000 ∧ σ.1 934 0 < 30))), (4, .int (b2i (ix p9 (σ.1 924 0) ∧ (ix d9 (σ.1 932 0) ∧ ix g9 4)))), (0, .ref (L 999 0)), (1, .int p9), (2, .int d9), (3, .int g9)]) hx hb dX9_judge_117 hl (by decide) rfl (fun ls hl => ?_)
        refine lv_aload_n hx hb dX9_judge_119 rfl (lv_at hl 3 rfl) ?_
        refine gt_X9_89 X hK hG rd_999 dX9_judge_120 ?_
        refine lv_iload hx hb dX9_judge_123 (lv_at hl 0 rfl) ?_
        refine lv_iload_n hx hb dX9_judge_125 rfl (lv_at hl 4 rfl) ?_
        refine as_933 X hK hG hS hA rd_933 (i := 18 * (σ.1 934 0)) (by omega) dX9_judge_126 (fun H locs hG hS => ?_)
        refine lv_aload_n hx hb dX9_judge_127 rfl (lv_at hl 3 rfl) ?_
        refine gt_X9_89 X hK hG rd_999 dX9_judge_128 ?_
        refine lv_iload hx hb dX9_judge_131 (lv_at hl 0 rfl) ?_
        refine lv_iconst (v := nI 1) hx hb dX9_judge_133 (by decide) ?_
        refine r_addN hx hb dX9_judge_134 ?_
        refine lv_iload_n hx hb dX9_judge_135 rfl (lv_at hl 5 rfl) ?_
        refine as_933 X hK hG hS hA rd_933 (i := (18 * (σ.1 934 0)) + 1) (by omega) dX9_judge_136 (fun H locs hG hS => ?_)
        refine lv_aload_n hx hb dX9_judge_137 rfl (lv_at hl 3 rfl) ?_
        refine gt_X9_89 X hK hG rd_999 dX9_judge_138 ?_
        refine lv_iload hx hb dX9_judge_141 (lv_at hl 0 rfl) ?_
        refine lv_iconst (v := nI 3) hx hb dX9_judge_143 (by decide) ?_
        refine r_addN hx hb dX9_judge_144 ?_
        refine lv_aload_n hx hb dX9_judge_145 rfl (lv_at hl 3 rfl) ?_
        refine gt_X9_158 X hK hG rd_999 (x := σ.1 900 0) rfl dX9_judge_146 ?_
        refine as_933 X hK hG hS hA rd_933 (i := (18 * (σ.1 934 0)) + 3) (by omega) dX9_judge_149 (fun H locs hG hS => ?_)
        refine lv_aload_n hx hb dX9_judge_150 rfl (lv_at hl 3 rfl) ?_
        refine gt_X9_89 X hK hG rd_999 dX9_judge_151 ?_
        refine lv_iload hx hb dX9_judge_154 (lv_at hl 0 rfl) ?_
        refine lv_iconst (v := nI 4) hx hb dX9_judge_156 (by decide) ?_
        refine r_addN hx hb dX9_judge_157 ?_
        refine lv_aload_n hx hb dX9_judge_158 rfl (lv_at hl 3 rfl) ?_
        refine gt_X9_80 X hK hG rd_999 dX9_judge_159 ?_
        refine lv_iload_n hx hb dX9_judge_162 rfl (lv_at hl 6 rfl) ?_
        refine r_top (y := nI (tn g9)) (ix_eq c_105.1.2.2) ?_
        refine al_929 X hK hG rd_929 (i := tn g9) (x := σ.2.2.2 929 0 (tn g9)) (hg9) rfl dX9_judge_163 ?_
        refine as_933 X hK hG hS hA rd_933 (i := (18 * (σ.1 934 0)) + 4) (by omega) dX9_judge_164 (fun H locs hG hS => ?_)
        refine lv_aload_n hx hb dX9_judge_165 rfl (lv_at hl 3 rfl) ?_
        refine gt_X9_89 X hK hG rd_999 dX9_judge_166 ?_
        refine lv_iload hx hb dX9_judge_169 (lv_at hl 0 rfl) ?_
        refine lv_bipush (v := nI 17) hx hb dX9_judge_171 (by decide) ?_
        refine r_addN hx hb dX9_judge_173 ?_
        refine lv_aload_n hx hb dX9_judge_174 rfl (lv_at hl 3 rfl) ?_
        refine gt_X9_86 X hK hG rd_999 dX9_judge_175 ?_
        refine lv_iload_n hx hb dX9_judge_178 rfl (lv_at hl 5 rfl) ?_
        refine r_top (y := nI (tn d9)) (ix_eq c_105.1.2.1) ?_
        refine al_931 X hK hG rd_931 (i := tn d9) (x := σ.2.2.1 931 0 (tn d9)) (by omega) rfl dX9_judge_179 ?_
        refine as_933 X hK hG hS hA rd_933 (i := (18 * (σ.1 934 0)) + 17) (by omega) dX9_judge_180 (fun H locs hG hS => ?_)
        have hG : PW D cI cZ cO rdom L (m_jx p9 d9 g9 σ) ow H := hG
        refine lv_iconst (v := nI 0) hx hb dX9_judge_181 (by decide) ?_
        refine lv_istore (lv' := [(7, .int (nI 0)), (6, .int (nI (18 * (σ.1 934 0)))), (5, .int (b2i ((ix p9 (σ.1 924 0) ∧ (ix d9 (σ.1 932 0) ∧ ix g9 4)) ∧ σ.2.2.2 920 0 (tn p9) = nI 2 ∧ 0 < σ.2.2.1 931 0 (tn d9) ∧ ¬ σ.2.2.2 928 0 (tn g9) = 0 ∧ σ.1 900 0 < σ.2.2.1 927 0 (tn g9) + 1000 ∧ σ.1 934 0 < 30))), (4, .int (b2i (ix p9 (σ.1 924 0) ∧ (ix d9 (σ.1 932 0) ∧ ix g9 4)))), (0, .ref (L 999 0)), (1, .int p9), (2, .int d9), (3, .int g9)]) hx hb dX9_judge_182 hl (by decide) rfl (fun ls hl => ?_)
        refine r_loop (ι := Nat × St) (fun (⟨k, σ9⟩ : Nat × St) => [(0, .ref (L 999 0)), (1, .int p9), (2, .int d9), (3, .int g9), (6, .int (nI (18 * (σ.1 934 0)))), (7, .int (nI k))]) (fun (⟨k, σ9⟩ : Nat × St) => σ9) (fun (⟨k, σ9⟩ : Nat × St) => σ.2.2.1 931 0 (tn d9) - k) (fun (⟨k, σ9⟩ : Nat × St) => σ9 = m_jl (tn p9) (tn d9) (tn g9) (σ.1 934 0) k (m_jx p9 d9 g9 σ) ∧ k ≤ σ.2.2.1 931 0 (tn d9) ∧ FRm [] [] [930, 913] [933, 912] (m_jx p9 d9 g9 σ) σ9 ∧ (∀ i, ¬ i % 6 = 5 → σ9.2.2.1 930 0 i = σ.2.2.1 930 0 i) ∧ (∀ i, σ9.2.2.1 930 0 i ≤ σ.2.2.1 930 0 i) ∧ σ9.2.2.2 933 0 (18 * σ.1 934 0 + 17) = nI (σ.2.2.1 931 0 (tn d9))) ⟨0, (m_jx p9 d9 g9 σ)⟩ (⟨rfl, Nat.zero_le _, FRm.rf, fun _ _ => rfl, fun _ => Nat.le_refl _, jx_17 p9 d9 g9 σ⟩) hG hS (lv_sub hl [4, 5, 6, 7, 1, 0] rfl) ?_
        rintro ⟨k, σ9⟩ hinv ih H locs ls hG hS hl
        have hG : PW D cI cZ cO rdom L σ9 ow H := hG
        have hl : lv_has ls 11 [(0, .ref (L 999 0)), (1, .int p9), (2, .int d9), (3, .int g9), (6, .int (nI (18 * (σ.1 934 0)))), (7, .int (nI k))] := hl
        obtain ⟨hq, hk, hfr, hxa, hxl, h17⟩ := hinv
        refine lv_iload hx hb dX9_judge_184 (lv_at hl 5 rfl) ?_
        refine lv_aload_n hx hb dX9_judge_186 rfl (lv_at hl 0 rfl) ?_
        refine gt_X9_86 X hK hG rd_999 dX9_judge_187 ?_
        refine lv_iload_n hx hb dX9_judge_190 rfl (lv_at hl 2 rfl) ?_
        refine r_top (y := nI (tn d9)) (ix_eq c_105.1.2.1) ?_
        refine al_931 X hK hG rd_931 (i := tn d9) (x := σ.2.2.1 931 0 (tn d9)) (by omega) ((show σ9.2.2.1 931 0 (tn d9) = _ from by rw [hfr.2.2.1 931 (by decide)] <;> rfl).trans ((show (m_jx p9 d9 g9 σ).2.2.1 931 0 (tn d9) = _ from by rw [jx_A] <;> rfl).trans rfl)) dX9_judge_191 ?_
        refine r_icmp_geN (tgt := 393) hx hb dX9_judge_192 (by decide) (by have := h931 (tn d9); omega) (by have := h931 (tn d9); omega) (fun c_192 => ?_) (fun c_192 => ?_)
        · have hkn : k = σ.2.2.1 931 0 (tn d9) := by omega
          have hE : σ9 = m_jl (tn p9) (tn d9) (tn g9) (σ.1 934 0) (σ.2.2.1 931 0 (tn d9)) (m_jx p9 d9 g9 σ) := by rw [← hkn]; exact hq
          refine lv_aload_n hx hb dX9_judge_393 rfl (lv_at hl 0 rfl) ?_
          refine lv_dup hx hb dX9_judge_394 rfl ?_
          refine gt_X9_208 X hK hG rd_999 (x := σ.1 934 0) ((show σ9.1 934 0 = _ from by rw [hfr.1 934 (by decide)] <;> rfl).trans ((show (m_jx p9 d9 g9 σ).1 934 0 = _ from by rw [jx_N] <;> rfl).trans rfl)) dX9_judge_395 ?_
          refine lv_iconst (v := nI 1) hx hb dX9_judge_398 (by decide) ?_
          refine r_addN hx hb dX9_judge_399 ?_
          refine pt_X9_208 X hK hG hS hA rd_999 dX9_judge_400 (fun H locs hG hS => ?_)
          refine lv_aload_n hx hb dX9_judge_403 rfl (lv_at hl 0 rfl) ?_
          refine gt_X9_89 X hK hG rd_999 dX9_judge_404 ?_
          refine lv_iload hx hb dX9_judge_407 (lv_at hl 4 rfl) ?_
          refine lv_iconst (v := nI 2) hx hb dX9_judge_409 (by decide) ?_
          refine r_addN hx hb dX9_judge_410 ?_
          refine lv_aload_n hx hb dX9_judge_411 rfl (lv_at hl 0 rfl) ?_
          refine lv_aload_n hx hb dX9_judge_412 rfl (lv_at hl 0 rfl) ?_
          refine gt_X9_208 X hK hG rd_999 (x := (σ.1 934 0) + 1) rfl dX9_judge_413 ?_
          refine lv_iconst (v := nI 1) hx hb dX9_judge_416 (by decide) ?_
          refine r_subN hx hb (by omega) dX9_judge_417 ?_
          refine r_top (y := nI (σ.1 934 0)) (rfl) ?_
          refine rm_callV X hK hG hS yvX9_verdictOf ml_X9_218 kX9 rfl rd_999 [.int (nI (σ.1 934 0))] [.int (nI ((18 * (σ.1 934 0)) + 2)), .ref (L 933 0)] (c_X9_verdictOf l L (wN σ9 934 0 ((σ.1 934 0) + 1)) ow (σ.1 934 0) (σ.2.2.1 931 0 (tn d9)) hM (h931 _) h17) rfl hl.1 rfl (Nat.le_of_ble_eq_true rfl) ⟨Nat.le_of_ble_eq_true rfl, Nat.le_of_ble_eq_true rfl⟩ ⟨Nat.zero_le _, Nat.zero_le _⟩ dX9_judge_418 (fun H locs hG hS => ?_)
          refine as_933 X hK hG hS hA rd_933 (i := (18 * (σ.1 934 0)) + 2) (by omega) dX9_judge_421 (fun H locs hG hS => ?_)
          refine lv_aload_n hx hb dX9_judge_422 rfl (lv_at hl 0 rfl) ?_
          refine gt_X9_68 X hK hG rd_999 dX9_judge_423 ?_
          refine lv_iload_n hx hb dX9_judge_426 rfl (lv_at hl 1 rfl) ?_
          refine r_top (y := nI (tn p9)) (ix_eq c_105.1.1) ?_
          refine lv_aload_n hx hb dX9_judge_427 rfl (lv_at hl 0 rfl) ?_
          refine gt_X9_89 X hK hG rd_999 dX9_judge_428 ?_
          refine lv_iload hx hb dX9_judge_431 (lv_at hl 4 rfl) ?_
          refine lv_iconst (v := nI 2) hx hb dX9_judge_433 (by decide) ?_
          refine r_addN hx hb dX9_judge_434 ?_
          refine al_933 X hK hG rd_933 (i := (18 * (σ.1 934 0)) + 2) (x := vdl (vdf (σ.1 934 0) (wN σ9 934 0 ((σ.1 934 0) + 1))) (σ.2.2.1 931 0 (tn d9))) (by omega) (by simp [wN, wI, wA, wB, up3, up2, up1]) dX9_judge_435 ?_
          refine as_923 X hK hG hS hA rd_923 (i := tn p9) (by omega) dX9_judge_436 (fun H locs hG hS => ?_)
          refine lv_aload_n hx hb dX9_judge_437 rfl (lv_at hl 0 rfl) ?_
          refine gt_X9_208 X hK hG rd_999 (x := (σ.1 934 0) + 1) rfl dX9_judge_438 ?_
          refine lv_iconst (v := nI 1) hx hb dX9_judge_441 (by decide) ?_
          refine r_subN hx hb (by omega) dX9_judge_442 ?_
          exact rm_ret hx hb hr hlocks hG hS (by unfold m_judge; rw [if_pos c_105, ← hE] <;> rfl) (by unfold m_judge; rw [if_pos c_105, ← hE] <;> rfl) rfl dX9_judge_443
        · refine lv_bipush (v := nI 6) hx hb dX9_judge_195 (by decide) ?_
          refine lv_bipush (v := nI 6) hx hb dX9_judge_197 (by decide) ?_
          refine lv_iload_n hx hb dX9_judge_199 rfl (lv_at hl 2 rfl) ?_
          refine r_top (y := nI (tn d9)) (ix_eq c_105.1.2.1) ?_
          refine r_mulN hx hb dX9_judge_200 ?_
          refine lv_iload hx hb dX9_judge_201 (lv_at hl 5 rfl) ?_
          refine r_addN hx hb dX9_judge_203 ?_
          refine r_mulN hx hb dX9_judge_204 ?_
          refine lv_istore (lv' := [(8, .int (nI (6 * ((6 * (tn d9)) + k)))), (0, .ref (L 999 0)), (1, .int p9), (2, .int d9), (3, .int g9), (6, .int (nI (18 * (σ.1 934 0)))), (7, .int (nI k))]) hx hb dX9_judge_205 hl (by decide) rfl (fun ls hl => ?_)
          refine lv_sipush (v := nI 144) hx hb dX9_judge_207 (by decide) ?_
          refine lv_iload_n hx hb dX9_judge_210 rfl (lv_at hl 2 rfl) ?_
          refine r_top (y := nI (tn p9)) (ix_eq c_105.1.1) ?_
          refine r_mulN hx hb dX9_judge_211 ?_
          refine lv_bipush (v := nI 12) hx hb dX9_judge_212 (by decide) ?_
          refine lv_aload_n hx hb dX9_judge_214 rfl (lv_at hl 1 rfl) ?_
          refine gt_X9_83 X hK hG rd_999 dX9_judge_215 ?_
          refine lv_iload hx hb dX9_judge_218 (lv_at hl 0 rfl) ?_
          refine lv_iconst (v := nI 1) hx hb dX9_judge_220 (by decide) ?_
          refine r_addN hx hb dX9_judge_221 ?_
          refine al_930 X hK hG rd_930 (i := (6 * ((6 * (tn d9)) + k)) + 1) (x := σ9.2.2.1 930 0 ((6 * ((6 * (tn d9)) + k)) + 1)) (by have := h931 (tn d9); omega) rfl dX9_judge_222 ?_
          refine r_mulN hx hb dX9_judge_223 ?_
          refine r_addN hx hb dX9_judge_224 ?_
          refine lv_aload_n hx hb dX9_judge_225 rfl (lv_at hl 1 rfl) ?_
          refine gt_X9_83 X hK hG rd_999 dX9_judge_226 ?_
          refine lv_iload hx hb dX9_judge_229 (lv_at hl 0 rfl) ?_
          refine al_930 X hK hG rd_930 (i := 6 * ((6 * (tn d9)) + k)) (x := σ9.2.2.1 930 0 (6 * ((6 * (tn d9)) + k))) (by have := h931 (tn d9); omega) rfl dX9_judge_231 ?_
          refine r_addN hx hb dX9_judge_232 ?_
          refine lv_istore (lv' := [(9, .int (nI (((144 * (tn p9)) + (12 * (σ9.2.2.1 930 0 ((6 * ((6 * (tn d9)) + k)) + 1)))) + (σ9.2.2.1 930 0 (6 * ((6 * (tn d9)) + k)))))), (8, .int (nI (6 * ((6 * (tn d9)) + k)))), (0, .ref (L 999 0)), (1, .int p9), (2, .int d9), (3, .int g9), (6, .int (nI (18 * (σ.1 934 0)))), (7, .int (nI k))]) hx hb dX9_judge_233 hl (by decide) rfl (fun ls hl => ?_)
          have hcel : (144 * (tn p9)) + (12 * (σ9.2.2.1 930 0 ((6 * (6 * tn d9 + k)) + 1))) + (σ9.2.2.1 930 0 (6 * (6 * tn d9 + k))) < 864 := by
            have h1 := h931 (tn d9)
            have h2 := hxy (6 * tn d9 + k) (by omega)
            have h3 := hxl (6 * (6 * tn d9 + k))
            have h4 := hxl (6 * (6 * tn d9 + k) + 1)
            omega
          refine lv_aload_n hx hb dX9_judge_235 rfl (lv_at hl 2 rfl) ?_
          refine lv_iload hx hb dX9_judge_236 (lv_at hl 0 rfl) ?_
          refine rm_callV X hK hG hS yvX9_sizeOf ml_X9_211 kX9 rfl rd_999 [.int (nI (((144 * (tn p9)) + (12 * (σ9.2.2.1 930 0 ((6 * ((6 * (tn d9)) + k)) + 1)))) + (σ9.2.2.1 930 0 (6 * ((6 * (tn d9)) + k)))))] [] (c_X9_sizeOf l L σ9 ow (((144 * (tn p9)) + (12 * (σ9.2.2.1 930 0 ((6 * ((6 * (tn d9)) + k)) + 1)))) + (σ9.2.2.1 930 0 (6 * ((6 * (tn d9)) + k)))) (hcel)) rfl hl.1 rfl (Nat.le_of_ble_eq_true rfl) ⟨Nat.le_of_ble_eq_true rfl, Nat.le_of_ble_eq_true rfl⟩ ⟨Nat.zero_le _, Nat.zero_le _⟩ dX9_judge_238 (fun H locs hG hS => ?_)
          refine lv_aload_n hx hb dX9_judge_241 rfl (lv_at hl 2 rfl) ?_
          refine gt_X9_158 X hK hG rd_999 (x := σ9.1 900 0) rfl dX9_judge_242 ?_
          refine lv_aload_n hx hb dX9_judge_245 rfl (lv_at hl 2 rfl) ?_
          refine gt_X9_74 X hK hG rd_999 dX9_judge_246 ?_
          refine lv_iload_n hx hb dX9_judge_249 rfl (lv_at hl 5 rfl) ?_
          refine r_top (y := nI (tn g9)) (ix_eq c_105.1.2.2) ?_
          refine al_927 X hK hG rd_927 (i := tn g9) (x := σ9.2.2.1 927 0 (tn g9)) (hg9) rfl dX9_judge_250 ?_
          refine lv_isub hx hb dX9_judge_251 ?_
          refine lv_bipush (v := nI 100) hx hb dX9_judge_252 (by decide) ?_
          refine lv_idiv hx hb dX9_judge_254 (by decide) ?_
          refine lv_iadd hx hb dX9_judge_255 ?_
          refine lv_sipush (v := nI 1000) hx hb dX9_judge_256 (by decide) ?_
          refine lv_aload_n hx hb dX9_judge_259 rfl (lv_at hl 2 rfl) ?_
          refine gt_X9_83 X hK hG rd_999 dX9_judge_260 ?_
          refine lv_iload hx hb dX9_judge_263 (lv_at hl 1 rfl) ?_
          refine lv_iconst (v := nI 2) hx hb dX9_judge_265 (by decide) ?_
          refine r_addN hx hb dX9_judge_266 ?_
          refine al_930 X hK hG rd_930 (i := (6 * ((6 * (tn d9)) + k)) + 2) (x := σ9.2.2.1 930 0 ((6 * ((6 * (tn d9)) + k)) + 2)) (by have := h931 (tn d9); omega) rfl dX9_judge_267 ?_
          refine r_mulN hx hb dX9_judge_268 ?_
          refine lv_isub hx hb dX9_judge_269 ?_
          refine lv_istore (lv' := [(10, .int (((msz (((144 * (tn p9)) + (12 * (σ9.2.2.1 930 0 ((6 * ((6 * (tn d9)) + k)) + 1)))) + (σ9.2.2.1 930 0 (6 * ((6 * (tn d9)) + k)))) σ9) + (((nI (σ9.1 900 0)) - (nI (σ9.2.2.1 927 0 (tn g9)))) / (nI 100))) - (nI (1000 * (σ9.2.2.1 930 0 ((6 * ((6 * (tn d9)) + k)) + 2)))))), (9, .int (nI (((144 * (tn p9)) + (12 * (σ9.2.2.1 930 0 ((6 * ((6 * (tn d9)) + k)) + 1)))) + (σ9.2.2.1 930 0 (6 * ((6 * (tn d9)) + k)))))), (8, .int (nI (6 * ((6 * (tn d9)) + k)))), (0, .ref (L 999 0)), (1, .int p9), (2, .int d9), (3, .int g9), (6, .int (nI (18 * (σ.1 934 0)))), (7, .int (nI k))]) hx hb dX9_judge_270 hl (by decide) rfl (fun ls hl => ?_)
          refine lv_aload_n hx hb dX9_judge_272 rfl (lv_at hl 3 rfl) ?_
          refine gt_X9_89 X hK hG rd_999 dX9_judge_273 ?_
          refine lv_iload hx hb dX9_judge_276 (lv_at hl 7 rfl) ?_
          refine lv_iconst (v := nI 5) hx hb dX9_judge_278 (by decide) ?_
          refine r_addN hx hb dX9_judge_279 ?_
          refine lv_iload hx hb dX9_judge_280 (lv_at hl 8 rfl) ?_
          refine r_addN hx hb dX9_judge_282 ?_
          refine lv_iload hx hb dX9_judge_283 (lv_at hl 0 rfl) ?_
          refine as_933 X hK hG hS hA rd_933 (i := ((18 * (σ.1 934 0)) + 5) + k) (by have := h931 (tn d9); omega) dX9_judge_285 (fun H locs hG hS => ?_)
          refine lv_aload_n hx hb dX9_judge_286 rfl (lv_at hl 3 rfl) ?_
          refine gt_X9_89 X hK hG rd_999 dX9_judge_287 ?_
          refine lv_iload hx hb dX9_judge_290 (lv_at hl 7 rfl) ?_
          refine lv_bipush (v := nI 11) hx hb dX9_judge_292 (by decide) ?_
          refine r_addN hx hb dX9_judge_294 ?_
          refine lv_iload hx hb dX9_judge_295 (lv_at hl 8 rfl) ?_
          refine r_addN hx hb dX9_judge_297 ?_
          refine lv_aload_n hx hb dX9_judge_298 rfl (lv_at hl 3 rfl) ?_
          refine gt_X9_83 X hK hG rd_999 dX9_judge_299 ?_
          refine lv_iload hx hb dX9_judge_302 (lv_at hl 2 rfl) ?_
          refine lv_iconst (v := nI 3) hx hb dX9_judge_304 (by decide) ?_
          refine r_addN hx hb dX9_judge_305 ?_
          refine al_930 X hK hG rd_930 (i := (6 * ((6 * (tn d9)) + k)) + 3) (x := σ9.2.2.1 930 0 ((6 * ((6 * (tn d9)) + k)) + 3)) (by have := h931 (tn d9); omega) rfl dX9_judge_306 ?_
          refine r_cutH 332 [.int (nI (if σ9.2.2.1 930 0 (6 * (6 * tn d9 + k) + 5) = 0 then 0 else σ9.2.2.1 930 0 (6 * (6 * tn d9 + k) + 4))), .int (nI (σ9.2.2.1 930 0 ((6 * ((6 * (tn d9)) + k)) + 3))), .int (nI (((18 * (σ.1 934 0)) + 11) + k)), .ref (L 933 0)] hG hS (fun H locs hG hS => ?_) (fun J_332 => ?_)
          · refine r_addN hx hb dX9_judge_332 ?_
            refine as_933 X hK hG hS hA rd_933 (i := ((18 * (σ.1 934 0)) + 11) + k) (by have := h931 (tn d9); omega) dX9_judge_333 (fun H locs hG hS => ?_)
            refine lv_aload_n hx hb dX9_judge_334 rfl (lv_at hl 3 rfl) ?_
            refine gt_X9_83 X hK hG rd_999 dX9_judge_335 ?_
            refine lv_iload hx hb dX9_judge_338 (lv_at hl 2 rfl) ?_
            refine lv_iconst (v := nI 5) hx hb dX9_judge_340 (by decide) ?_
            refine r_addN hx hb dX9_judge_341 ?_
            refine lv_dup2_11 hx hb dX9_judge_342 rfl rfl ?_
            refine al_930 X hK hG rd_930 (i := (6 * ((6 * (tn d9)) + k)) + 5) (x := σ9.2.2.1 930 0 ((6 * ((6 * (tn d9)) + k)) + 5)) (by have := h931 (tn d9); omega) rfl dX9_judge_343 ?_
            refine r_cutH 361 [.int (nI (if σ9.2.2.1 930 0 (6 * (6 * tn d9 + k) + 5) = 0 then 0 else 1)), .int (nI (σ9.2.2.1 930 0 ((6 * ((6 * (tn d9)) + k)) + 5))), .int (nI ((6 * ((6 * (tn d9)) + k)) + 5)), .ref (L 930 0)] hG hS (fun H locs hG hS => ?_) (fun J_361 => ?_)
            · refine r_subN hx hb (by split <;> omega) dX9_judge_361 ?_
              refine as_930 X hK hG hS hA rd_930 (i := (6 * ((6 * (tn d9)) + k)) + 5) (by have := h931 (tn d9); omega) dX9_judge_362 (fun H locs hG hS => ?_)
              refine lv_aload_n hx hb dX9_judge_363 rfl (lv_at hl 3 rfl) ?_
              refine gt_X9_50 X hK hG rd_999 dX9_judge_364 ?_
              refine lv_iload hx hb dX9_judge_367 (lv_at hl 1 rfl) ?_
              refine al_917 X hK hG rd_917 (i := ((144 * (tn p9)) + (12 * (σ9.2.2.1 930 0 ((6 * ((6 * (tn d9)) + k)) + 1)))) + (σ9.2.2.1 930 0 (6 * ((6 * (tn d9)) + k)))) (x := σ9.2.2.2 917 0 (((144 * (tn p9)) + (12 * (σ9.2.2.1 930 0 ((6 * ((6 * (tn d9)) + k)) + 1)))) + (σ9.2.2.1 930 0 (6 * ((6 * (tn d9)) + k))))) (hcel) rfl dX9_judge_369 ?_
              refine lv_iconst (v := (-1)) hx hb dX9_judge_370 (by decide) ?_
              refine lv_icmp_eq (tgt := 387) hx hb dX9_judge_371 (by decide) (fun c_371 => ?_) (fun c_371 => ?_)
              · refine r_iincN (b := 1) (lv' := [(7, .int (nI (k + 1))), (10, .int (((msz (((144 * (tn p9)) + (12 * (σ9.2.2.1 930 0 ((6 * ((6 * (tn d9)) + k)) + 1)))) + (σ9.2.2.1 930 0 (6 * ((6 * (tn d9)) + k)))) σ9) + (((nI (σ9.1 900 0)) - (nI (σ9.2.2.1 927 0 (tn g9)))) / (nI 100))) - (nI (1000 * (σ9.2.2.1 930 0 ((6 * ((6 * (tn d9)) + k)) + 2)))))), (9, .int (nI (((144 * (tn p9)) + (12 * (σ9.2.2.1 930 0 ((6 * ((6 * (tn d9)) + k)) + 1)))) + (σ9.2.2.1 930 0 (6 * ((6 * (tn d9)) + k)))))), (8, .int (nI (6 * ((6 * (tn d9)) + k)))), (0, .ref (L 999 0)), (1, .int p9), (2, .int d9), (3, .int g9), (6, .int (nI (18 * (σ.1 934 0))))]) hx hb dX9_judge_387 hl (k := 8) rfl (by decide) (by decide) rfl (fun ls hl => ?_)
                refine lv_goto (tgt := 184) hx hb dX9_judge_390 (by decide) ?_
                exact ih ⟨k + 1, (wA (wB (wB σ9 933 0 (((18 * (σ.1 934 0)) + 5) + k) (((msz (((144 * (tn p9)) + (12 * (σ9.2.2.1 930 0 ((6 * ((6 * (tn d9)) + k)) + 1)))) + (σ9.2.2.1 930 0 (6 * ((6 * (tn d9)) + k)))) σ9) + (((nI (σ9.1 900 0)) - (nI (σ9.2.2.1 927 0 (tn g9)))) / (nI 100))) - (nI (1000 * (σ9.2.2.1 930 0 ((6 * ((6 * (tn d9)) + k)) + 2)))))) 933 0 (((18 * (σ.1 934 0)) + 11) + k) (nI ((σ9.2.2.1 930 0 ((6 * ((6 * (tn d9)) + k)) + 3)) + (if σ9.2.2.1 930 0 (6 * (6 * tn d9 + k) + 5) = 0 then 0 else σ9.2.2.1 930 0 (6 * (6 * tn d9 + k) + 4))))) 930 0 ((6 * ((6 * (tn d9)) + k)) + 5) ((σ9.2.2.1 930 0 ((6 * ((6 * (tn d9)) + k)) + 5)) - (if σ9.2.2.1 930 0 (6 * (6 * tn d9 + k) + 5) = 0 then 0 else 1)))⟩ (by show σ.2.2.1 931 0 (tn d9) - (k + 1) < σ.2.2.1 931 0 (tn d9) - k; omega) (jl_nx hq hk hfr hxa hxl h17 (h931 _) c_192 (by show _ = m_jst (tn p9) (tn d9) (tn g9) (σ.1 934 0) k (m_jl (tn p9) (tn d9) (tn g9) (σ.1 934 0) k (m_jx p9 d9 g9 σ)); rw [← hq]; unfold m_jst; rw [if_pos c_371] <;> rfl)) H locs ls hG hS (lv_sub hl [4, 5, 6, 7, 8, 0] rfl)
              · have hcu : ix (σ9.2.2.2 917 0 ((144 * (tn p9)) + (12 * (σ9.2.2.1 930 0 ((6 * (6 * tn d9 + k)) + 1))) + (σ9.2.2.1 930 0 (6 * (6 * tn d9 + k))))) 16 := by
                  have h1 := hcut _ hcel
                  rw [← jx_B 917 (by decide) p9 d9 g9 σ, ← hfr.2.2.2 917 (by decide)] at h1
                  exact h1.resolve_left c_371
                refine lv_aload_n hx hb dX9_judge_374 rfl (lv_at hl 3 rfl) ?_
                refine lv_aload_n hx hb dX9_judge_375 rfl (lv_at hl 3 rfl) ?_
                refine gt_X9_50 X hK hG rd_999 dX9_judge_376 ?_
                refine lv_iload hx hb dX9_judge_379 (lv_at hl 1 rfl) ?_
                refine al_917 X hK hG rd_917 (i := ((144 * (tn p9)) + (12 * (σ9.2.2.1 930 0 ((6 * ((6 * (tn d9)) + k)) + 1)))) + (σ9.2.2.1 930 0 (6 * ((6 * (tn d9)) + k)))) (x := σ9.2.2.2 917 0 (((144 * (tn p9)) + (12 * (σ9.2.2.1 930 0 ((6 * ((6 * (tn d9)) + k)) + 1)))) + (σ9.2.2.1 930 0 (6 * ((6 * (tn d9)) + k))))) (hcel) rfl dX9_judge_381 ?_
                refine r_top (y := nI (tn (σ9.2.2.2 917 0 ((144 * (tn p9)) + (12 * (σ9.2.2.1 930 0 ((6 * (6 * tn d9 + k)) + 1))) + (σ9.2.2.1 930 0 (6 * (6 * tn d9 + k))))))) (ix_eq hcu) ?_
                refine lv_iload hx hb dX9_judge_382 (lv_at hl 0 rfl) ?_
                refine rv_callV X hK hG hS yvX9_tells ml_X9_214 kX9 rfl rd_999 [.int (nI (tn (σ9.2.2.2 917 0 ((144 * (tn p9)) + (12 * (σ9.2.2.1 930 0 ((6 * (6 * tn d9 + k)) + 1))) + (σ9.2.2.1 930 0 (6 * (6 * tn d9 + k))))))), .int (((msz (((144 * (tn p9)) + (12 * (σ9.2.2.1 930 0 ((6 * ((6 * (tn d9)) + k)) + 1)))) + (σ9.2.2.1 930 0 (6 * ((6 * (tn d9)) + k)))) σ9) + (((nI (σ9.1 900 0)) - (nI (σ9.2.2.1 927 0 (tn g9)))) / (nI 100))) - (nI (1000 * (σ9.2.2.1 930 0 ((6 * ((6 * (tn d9)) + k)) + 2)))))] [] (c_X9_tells l L (wA (wB (wB σ9 933 0 (((18 * (σ.1 934 0)) + 5) + k) (((msz (((144 * (tn p9)) + (12 * (σ9.2.2.1 930 0 ((6 * ((6 * (tn d9)) + k)) + 1)))) + (σ9.2.2.1 930 0 (6 * ((6 * (tn d9)) + k)))) σ9) + (((nI (σ9.1 900 0)) - (nI (σ9.2.2.1 927 0 (tn g9)))) / (nI 100))) - (nI (1000 * (σ9.2.2.1 930 0 ((6 * ((6 * (tn d9)) + k)) + 2)))))) 933 0 (((18 * (σ.1 934 0)) + 11) + k) (nI ((σ9.2.2.1 930 0 ((6 * ((6 * (tn d9)) + k)) + 3)) + (if σ9.2.2.1 930 0 (6 * (6 * tn d9 + k) + 5) = 0 then 0 else σ9.2.2.1 930 0 (6 * (6 * tn d9 + k) + 4))))) 930 0 ((6 * ((6 * (tn d9)) + k)) + 5) ((σ9.2.2.1 930 0 ((6 * ((6 * (tn d9)) + k)) + 5)) - (if σ9.2.2.1 930 0 (6 * (6 * tn d9 + k) + 5) = 0 then 0 else 1))) ow (tn (σ9.2.2.2 917 0 ((144 * (tn p9)) + (12 * (σ9.2.2.1 930 0 ((6 * (6 * tn d9 + k)) + 1))) + (σ9.2.2.1 930 0 (6 * (6 * tn d9 + k)))))) (((msz (((144 * (tn p9)) + (12 * (σ9.2.2.1 930 0 ((6 * ((6 * (tn d9)) + k)) + 1)))) + (σ9.2.2.1 930 0 (6 * ((6 * (tn d9)) + k)))) σ9) + (((nI (σ9.1 900 0)) - (nI (σ9.2.2.1 927 0 (tn g9)))) / (nI 100))) - (nI (1000 * (σ9.2.2.1 930 0 ((6 * ((6 * (tn d9)) + k)) + 2))))) (ix_lt hcu)) rfl hl.1 rfl (Nat.le_of_ble_eq_true rfl) ⟨Nat.le_of_ble_eq_true rfl, Nat.le_of_ble_eq_true rfl⟩ ⟨Nat.zero_le _, Nat.zero_le _⟩ dX9_judge_384 (fun H locs hG hS => ?_)
                refine r_iincN (b := 1) (lv' := [(7, .int (nI (k + 1))), (10, .int (((msz (((144 * (tn p9)) + (12 * (σ9.2.2.1 930 0 ((6 * ((6 * (tn d9)) + k)) + 1)))) + (σ9.2.2.1 930 0 (6 * ((6 * (tn d9)) + k)))) σ9) + (((nI (σ9.1 900 0)) - (nI (σ9.2.2.1 927 0 (tn g9)))) / (nI 100))) - (nI (1000 * (σ9.2.2.1 930 0 ((6 * ((6 * (tn d9)) + k)) + 2)))))), (9, .int (nI (((144 * (tn p9)) + (12 * (σ9.2.2.1 930 0 ((6 * ((6 * (tn d9)) + k)) + 1)))) + (σ9.2.2.1 930 0 (6 * ((6 * (tn d9)) + k)))))), (8, .int (nI (6 * ((6 * (tn d9)) + k)))), (0, .ref (L 999 0)), (1, .int p9), (2, .int d9), (3, .int g9), (6, .int (nI (18 * (σ.1 934 0))))]) hx hb dX9_judge_387 hl (k := 8) rfl (by decide) (by decide) rfl (fun ls hl => ?_)
                refine lv_goto (tgt := 184) hx hb dX9_judge_390 (by decide) ?_
                exact ih ⟨k + 1, (m_tells (tn (σ9.2.2.2 917 0 ((144 * (tn p9)) + (12 * (σ9.2.2.1 930 0 ((6 * (6 * tn d9 + k)) + 1))) + (σ9.2.2.1 930 0 (6 * (6 * tn d9 + k)))))) (((msz (((144 * (tn p9)) + (12 * (σ9.2.2.1 930 0 ((6 * ((6 * (tn d9)) + k)) + 1)))) + (σ9.2.2.1 930 0 (6 * ((6 * (tn d9)) + k)))) σ9) + (((nI (σ9.1 900 0)) - (nI (σ9.2.2.1 927 0 (tn g9)))) / (nI 100))) - (nI (1000 * (σ9.2.2.1 930 0 ((6 * ((6 * (tn d9)) + k)) + 2))))) (wA (wB (wB σ9 933 0 (((18 * (σ.1 934 0)) + 5) + k) (((msz (((144 * (tn p9)) + (12 * (σ9.2.2.1 930 0 ((6 * ((6 * (tn d9)) + k)) + 1)))) + (σ9.2.2.1 930 0 (6 * ((6 * (tn d9)) + k)))) σ9) + (((nI (σ9.1 900 0)) - (nI (σ9.2.2.1 927 0 (tn g9)))) / (nI 100))) - (nI (1000 * (σ9.2.2.1 930 0 ((6 * ((6 * (tn d9)) + k)) + 2)))))) 933 0 (((18 * (σ.1 934 0)) + 11) + k) (nI ((σ9.2.2.1 930 0 ((6 * ((6 * (tn d9)) + k)) + 3)) + (if σ9.2.2.1 930 0 (6 * (6 * tn d9 + k) + 5) = 0 then 0 else σ9.2.2.1 930 0 (6 * (6 * tn d9 + k) + 4))))) 930 0 ((6 * ((6 * (tn d9)) + k)) + 5) ((σ9.2.2.1 930 0 ((6 * ((6 * (tn d9)) + k)) + 5)) - (if σ9.2.2.1 930 0 (6 * (6 * tn d9 + k) + 5) = 0 then 0 else 1))))⟩ (by show σ.2.2.1 931 0 (tn d9) - (k + 1) < σ.2.2.1 931 0 (tn d9) - k; omega) (jl_nx hq hk hfr hxa hxl h17 (h931 _) c_192 (by show _ = m_jst (tn p9) (tn d9) (tn g9) (σ.1 934 0) k (m_jl (tn p9) (tn d9) (tn g9) (σ.1 934 0) k (m_jx p9 d9 g9 σ)); rw [← hq]; unfold m_jst; rw [if_neg c_371] <;> rfl)) H locs ls hG hS (lv_sub hl [4, 5, 6, 7, 8, 0] rfl)
            · refine lv_aload_n hx hb dX9_judge_344 rfl (lv_at hl 3 rfl) ?_
              refine gt_X9_83 X hK hG rd_999 dX9_judge_345 ?_
              refine lv_iload hx hb dX9_judge_348 (lv_at hl 2 rfl) ?_
              refine lv_iconst (v := nI 5) hx hb dX9_judge_350 (by decide) ?_
              refine r_addN hx hb dX9_judge_351 ?_
              refine al_930 X hK hG rd_930 (i := (6 * ((6 * (tn d9)) + k)) + 5) (x := σ9.2.2.1 930 0 ((6 * ((6 * (tn d9)) + k)) + 5)) (by have := h931 (tn d9); omega) rfl dX9_judge_352 ?_
              refine r_if_leN (tgt := 360) hx hb dX9_judge_353 (by decide) (by have := hft (6 * (6 * tn d9 + k) + 5); have := hxl (6 * (6 * tn d9 + k) + 5); omega) (fun c_353 => ?_) (fun c_353 => ?_)
              · refine lv_iconst (v := nI 0) hx hb dX9_judge_360 (by decide) ?_
                exact r_top (by rw [if_pos c_353]) (J_361 _ _ hG hS)
              · refine lv_iconst (v := nI 1) hx hb dX9_judge_356 (by decide) ?_
                refine lv_goto (tgt := 361) hx hb dX9_judge_357 (by decide) ?_
                exact r_top (by rw [if_neg (Nat.pos_iff_ne_zero.mp c_353)]) (J_361 _ _ hG hS)
          · refine lv_aload_n hx hb dX9_judge_307 rfl (lv_at hl 3 rfl) ?_
            refine gt_X9_83 X hK hG rd_999 dX9_judge_308 ?_
            refine lv_iload hx hb dX9_judge_311 (lv_at hl 2 rfl) ?_
            refine lv_iconst (v := nI 5) hx hb dX9_judge_313 (by decide) ?_
            refine r_addN hx hb dX9_judge_314 ?_
            refine al_930 X hK hG rd_930 (i := (6 * ((6 * (tn d9)) + k)) + 5) (x := σ9.2.2.1 930 0 ((6 * ((6 * (tn d9)) + k)) + 5)) (by have := h931 (tn d9); omega) rfl dX9_judge_315 ?_
            refine r_if_leN (tgt := 331) hx hb dX9_judge_316 (by decide) (by have := hft (6 * (6 * tn d9 + k) + 5); have := hxl (6 * (6 * tn d9 + k) + 5); omega) (fun c_316 => ?_) (fun c_316 => ?_)
            · refine lv_iconst (v := nI 0) hx hb dX9_judge_331 (by decide) ?_
              exact r_top (by rw [if_pos c_316]) (J_332 _ _ hG hS)
            · refine lv_aload_n hx hb dX9_judge_319 rfl (lv_at hl 3 rfl) ?_
              refine gt_X9_83 X hK hG rd_999 dX9_judge_320 ?_
              refine lv_iload hx hb dX9_judge_323 (lv_at hl 2 rfl) ?_
              refine lv_iconst (v := nI 4) hx hb dX9_judge_325 (by decide) ?_
              refine r_addN hx hb dX9_judge_326 ?_
              refine al_930 X hK hG rd_930 (i := (6 * ((6 * (tn d9)) + k)) + 4) (x := σ9.2.2.1 930 0 ((6 * ((6 * (tn d9)) + k)) + 4)) (by have := h931 (tn d9); omega) rfl dX9_judge_327 ?_
              refine lv_goto (tgt := 332) hx hb dX9_judge_328 (by decide) ?_
              exact r_top (by rw [if_neg (Nat.pos_iff_ne_zero.mp c_316)]) (J_332 _ _ hG hS)
      · refine lv_iconst (v := nI 0) hx hb dX9_judge_108 (by decide) ?_
        exact rm_ret hx hb hr hlocks hG hS (by unfold m_judge; rw [if_neg c_105] <;> rfl) (by unfold m_judge; rw [if_neg c_105] <;> rfl) rfl dX9_judge_109
    · refine lv_iload hx hb dX9_judge_30 (lv_at hl 0 rfl) ?_
      refine r_if_eqB (tgt := 93) hx hb dX9_judge_32 (by decide) (fun c_32 => ?_) (fun c_32 => ?_)
      · refine lv_iconst (v := nI 0) hx hb dX9_judge_93 (by decide) ?_
        exact r_top ((b2i_f (fun h => by have h9 := h.1; first | exact c_32 h9 | exact h9 c_32 | omega)).symm) (J_94 _ _ hG hS)
      · refine lv_aload_n hx hb dX9_judge_35 rfl (lv_at hl 1 rfl) ?_
        refine gt_X9_59 X hK hG rd_999 dX9_judge_36 ?_
        refine lv_iload_n hx hb dX9_judge_39 rfl (lv_at hl 2 rfl) ?_
        refine r_top (y := nI (tn p9)) (ix_eq c_32.1) ?_
        refine al_920 X hK hG rd_920 (i := tn p9) (x := σ.2.2.2 920 0 (tn p9)) (by have := ix_lt c_32.1; omega) rfl dX9_judge_40 ?_
        refine lv_iconst (v := nI 2) hx hb dX9_judge_41 (by decide) ?_
        refine lv_icmp_ne (tgt := 93) hx hb dX9_judge_42 (by decide) (fun c_42 => ?_) (fun c_42 => ?_)
        · refine lv_iconst (v := nI 0) hx hb dX9_judge_93 (by decide) ?_
          exact r_top ((b2i_f (fun h => by have h9 := h.2.1; first | exact c_42 h9 | exact h9 c_42 | omega)).symm) (J_94 _ _ hG hS)
        · refine lv_aload_n hx hb dX9_judge_45 rfl (lv_at hl 1 rfl) ?_
          refine gt_X9_86 X hK hG rd_999 dX9_judge_46 ?_
          refine lv_iload_n hx hb dX9_judge_49 rfl (lv_at hl 3 rfl) ?_
          refine r_top (y := nI (tn d9)) (ix_eq c_32.2.1) ?_
          refine al_931 X hK hG rd_931 (i := tn d9) (x := σ.2.2.1 931 0 (tn d9)) (by have := ix_lt c_32.2.1; omega) rfl dX9_judge_50 ?_
          refine r_if_leN (tgt := 93) hx hb dX9_judge_51 (by decide) (by have := h931 (tn d9); omega) (fun c_51 => ?_) (fun c_51 => ?_)
          · refine lv_iconst (v := nI 0) hx hb dX9_judge_93 (by decide) ?_
            exact r_top ((b2i_f (fun h => by have h9 := h.2.2.1; first | exact c_51 h9 | exact h9 c_51 | omega)).symm) (J_94 _ _ hG hS)
          · refine lv_aload_n hx hb dX9_judge_54 rfl (lv_at hl 1 rfl) ?_
            refine gt_X9_77 X hK hG rd_999 dX9_judge_55 ?_
            refine lv_iload_n hx hb dX9_judge_58 rfl (lv_at hl 4 rfl) ?_
            refine r_top (y := nI (tn g9)) (ix_eq c_32.2.2) ?_
            refine al_928 X hK hG rd_928 (i := tn g9) (x := σ.2.2.2 928 0 (tn g9)) (ix_lt c_32.2.2) rfl dX9_judge_59 ?_
            refine lv_if_eq (tgt := 93) hx hb dX9_judge_60 (by decide) (fun c_60 => ?_) (fun c_60 => ?_)
            · refine lv_iconst (v := nI 0) hx hb dX9_judge_93 (by decide) ?_
              exact r_top ((b2i_f (fun h => by have h9 := h.2.2.2.1; first | exact c_60 h9 | exact h9 c_60 | omega)).symm) (J_94 _ _ hG hS)
            · refine lv_aload_n hx hb dX9_judge_63 rfl (lv_at hl 1 rfl) ?_
              refine gt_X9_158 X hK hG rd_999 (x := σ.1 900 0) rfl dX9_judge_64 ?_
              refine lv_aload_n hx hb dX9_judge_67 rfl (lv_at hl 1 rfl) ?_
              refine gt_X9_74 X hK hG rd_999 dX9_judge_68 ?_
              refine lv_iload_n hx hb dX9_judge_71 rfl (lv_at hl 4 rfl) ?_
              refine r_top (y := nI (tn g9)) (ix_eq c_32.2.2) ?_
              refine al_927 X hK hG rd_927 (i := tn g9) (x := σ.2.2.1 927 0 (tn g9)) (ix_lt c_32.2.2) rfl dX9_judge_72 ?_
              refine lv_sipush (v := nI 1000) hx hb dX9_judge_73 (by decide) ?_
              refine r_addN hx hb dX9_judge_76 ?_
              refine r_icmp_geN (tgt := 93) hx hb dX9_judge_77 (by decide) (by omega) (by have := hc9 (tn g9); omega) (fun c_77 => ?_) (fun c_77 => ?_)
              · refine lv_iconst (v := nI 0) hx hb dX9_judge_93 (by decide) ?_
                exact r_top ((b2i_f (fun h => by have h9 := h.2.2.2.2.1; first | exact c_77 h9 | exact h9 c_77 | omega)).symm) (J_94 _ _ hG hS)
              · refine lv_aload_n hx hb dX9_judge_80 rfl (lv_at hl 1 rfl) ?_
                refine gt_X9_208 X hK hG rd_999 (x := σ.1 934 0) rfl dX9_judge_81 ?_
                refine lv_bipush (v := nI 30) hx hb dX9_judge_84 (by decide) ?_
                refine r_icmp_geN (tgt := 93) hx hb dX9_judge_86 (by decide) (by have := hQ30; omega) (by decide) (fun c_86 => ?_) (fun c_86 => ?_)
                · refine lv_iconst (v := nI 0) hx hb dX9_judge_93 (by decide) ?_
                  exact r_top ((b2i_f (fun h => by have h9 := h.2.2.2.2.2; first | exact c_86 h9 | exact h9 c_86 | omega)).symm) (J_94 _ _ hG hS)
                · refine lv_iconst (v := nI 1) hx hb dX9_judge_89 (by decide) ?_
                  refine lv_goto (tgt := 94) hx hb dX9_judge_90 (by decide) ?_
                  exact r_top ((b2i_t (by refine ⟨?_, ?_, ?_, ?_, ?_, ?_⟩ <;> first | assumption | omega)).symm) (J_94 _ _ hG hS)
  · refine lv_aload_n hx hb dX9_judge_0 rfl (lv_at hl 0 rfl) ?_
    refine lv_iload_n hx hb dX9_judge_1 rfl (lv_at hl 1 rfl) ?_
    refine rm_callV X hK hG hS yvX9_isPallet ml_X9_148 kX9 rfl rd_999 [.int p9] [] (c_X9_isPallet l L σ ow p9 (by omega)) rfl hl.1 rfl (Nat.le_of_ble_eq_true rfl) ⟨Nat.le_of_ble_eq_true rfl, Nat.le_of_ble_eq_true rfl⟩ ⟨Nat.zero_le _, Nat.zero_le _⟩ dX9_judge_2 (fun H locs hG hS => ?_)
    refine r_if_eqB (tgt := 27) hx hb dX9_judge_5 (by decide) (fun c_5 => ?_) (fun c_5 => ?_)
    · refine lv_iconst (v := nI 0) hx hb dX9_judge_27 (by decide) ?_
      exact r_top ((b2i_f (fun h => by have h9 := h.1; first | exact c_5 h9 | exact h9 c_5 | omega)).symm) (J_28 _ _ hG hS)
    · refine lv_aload_n hx hb dX9_judge_8 rfl (lv_at hl 0 rfl) ?_
      refine lv_iload_n hx hb dX9_judge_9 rfl (lv_at hl 2 rfl) ?_
      refine rm_callV X hK hG hS yvX9_isDrawing ml_X9_201 kX9 rfl rd_999 [.int d9] [] (c_X9_isDrawing l L σ ow d9 (by omega)) rfl hl.1 rfl (Nat.le_of_ble_eq_true rfl) ⟨Nat.le_of_ble_eq_true rfl, Nat.le_of_ble_eq_true rfl⟩ ⟨Nat.zero_le _, Nat.zero_le _⟩ dX9_judge_10 (fun H locs hG hS => ?_)
      refine r_if_eqB (tgt := 27) hx hb dX9_judge_13 (by decide) (fun c_13 => ?_) (fun c_13 => ?_)
      · refine lv_iconst (v := nI 0) hx hb dX9_judge_27 (by decide) ?_
        exact r_top ((b2i_f (fun h => by have h9 := h.2.1; first | exact c_13 h9 | exact h9 c_13 | omega)).symm) (J_28 _ _ hG hS)
      · refine lv_iload_n hx hb dX9_judge_16 rfl (lv_at hl 3 rfl) ?_
        refine rm_callS X hK hG hS ysX9_isGauge ml_X9_198 [.int g9] [] (c_X9_isGauge l L σ ow g9) rfl hl.1 rfl (Nat.le_of_ble_eq_true rfl) ⟨Nat.le_of_ble_eq_true rfl, Nat.le_of_ble_eq_true rfl⟩ ⟨Nat.zero_le _, Nat.zero_le _⟩ dX9_judge_17 (fun H locs hG hS => ?_)
        refine r_if_eqB (tgt := 27) hx hb dX9_judge_20 (by decide) (fun c_20 => ?_) (fun c_20 => ?_)
        · refine lv_iconst (v := nI 0) hx hb dX9_judge_27 (by decide) ?_
          exact r_top ((b2i_f (fun h => by have h9 := h.2.2; first | exact c_20 h9 | exact h9 c_20 | omega)).symm) (J_28 _ _ hG hS)
        · refine lv_iconst (v := nI 1) hx hb dX9_judge_23 (by decide) ?_
          refine lv_goto (tgt := 28) hx hb dX9_judge_24 (by decide) ?_
          exact r_top ((b2i_t (by refine ⟨?_, ?_, ?_⟩ <;> first | assumption | omega)).symm) (J_28 _ _ hG hS)
