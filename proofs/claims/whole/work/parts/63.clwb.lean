/-! the wrappers, one by one -/
def hh_program : List (Nat × Nat × Nat × Nat) := [(0, 8, 11, 13)]
set_option maxRecDepth 100000 in
set_option maxHeartbeats 4000000 in
theorem w_program {D : va_G} {cI cZ cO cJ : ClassId} {t0 mi : Nat} (l : Launch) (L : Lay) (σ : St) (ow : Nat → Prop) (o : Nat) {fr lo mc ms e9 : Nat} {r : Int32} {σ' : St} (hM : YI D cI cZ cO t0 mi l yX8_program cX8_program 1 (some FieldType.int) fr lo mc ms [.ref (L 899 0)] L σ ow e9 r σ') (he : e9 = 0 ∨ e9 = 3) : LI D cI cZ cO cJ t0 mi l yL_program cL_program 3 hh_program (fr + 1) (lo + 40) mc ms [.ref (L 899 0), .ref o] L σ ow o e9 (wk [3] e9) r σ' := by
  refine l_of rfl (Nat.le_of_ble_eq_true rfl) ?_
  intro p e s m args below meth c ls f X ht hK hC hE hX9 ho hos hat hN hr hlocks hl
  have X : CallFix p m c cL_program 3 s args TB RL := X
  have hx := X.1
  have hb := X.2.1
  have hl : lv_has ls 3 [(0, .ref (L 899 0)), (1, .ref o)] := hl
  have hS : va_S (fun q => AA ow s.heap.size q ∨ q = o) s.heap s.heap [] := va_S.rf
  have hOA : ∀ q, ow q → AA ow s.heap.size q ∨ q = o := fun q h => Or.inl (Or.inl h)
  have hNA : ∀ q, s.heap.size ≤ q → AA ow s.heap.size q ∨ q = o := fun q h => Or.inl (Or.inr h)
  refine lv_aload_n hx hb dL_program_0 rfl (lv_at hl 1 rfl) ?_
  refine lv_iconst (v := nI 0) hx hb dL_program_1 (by decide) ?_
  refine lv_aload_n hx hb dL_program_2 rfl (lv_at hl 0 rfl) ?_
  refine y_calliK (As := []) (rest := [.int (nI 0), .ref o]) X (kk_kj hK) hC hS hOA hNA hE hX9 yvX8_program ml_L_7 kX8 rfl (cd_fix (by decide)) hM rfl hl.1 rfl (Nat.le_of_ble_eq_true rfl) ⟨by show fr + 1 ≤ fr + 1; omega, by show 8 + (1 + 11) + lo ≤ lo + 40; omega⟩ ⟨by show 0 + mc ≤ mc; omega, by show 0 + ms ≤ ms; omega⟩ dL_program_3 (fun hne H1 locs1 q ce hB hk hS hq hv hcl => ?_) (fun h0 H1 locs1 hB hz hk hS => ?_)
  · have hat1 : va_at D vwCl (o, eLng cJ f) H1 := hat.kept (hk o hos (fun z => z.elim ho (fun y => by omega)))
    rcases he with rfl | rfl
    · exact absurd rfl hne
    · refine vx_catch (name := XTc 3) X.2.2.2.1 [] ⟨0, 8, 11, 13⟩ [] ht (fun z hz => absurd hz List.not_mem_nil) rfl (by decide) (X.2.2.2.2 _ (cp_link 3 (by decide))) (ex_cast hX9 (by decide)) hq hv hcl ?_
      refine lv_astore_n (lv' := [(2, .ref q), (0, .ref (L 899 0)), (1, .ref o)]) hx hb dL_program_11 rfl hl (by decide) rfl (fun ls hl => ?_)
      refine lv_iconst (v := nI (wk [3] 3)) hx hb dL_program_12 (by decide) ?_
      exact l_ret X hr hlocks (lb_of hB ho hos (fun _ _ => rfl) hat1 (fun z => absurd z hne)) hS (by show 0 + mc ≤ mc; omega) (by show 0 + ms ≤ ms; omega) dL_program_13
  · have hat1 : va_at D vwCl (o, eLng cJ f) H1 := hat.kept (hk o hos (fun z => z.elim ho (fun y => by omega)))
    subst h0
    refine lv_i2l (v := r.toInt64) hx hb dL_program_6 rfl ?_
    refine pj_last X hK hat1 hS (Or.inr rfl) dL_program_7 (fun H2 locs2 hat2 hz2 hk2 hS => ?_)
    refine lv_goto (tgt := 14) hx hb dL_program_8 (by decide) ?_
    refine lv_iconst (v := nI (wk [3] 0)) hx hb dL_program_14 (by decide) ?_
    exact l_ret X hr hlocks (lb_of hB ho hos hk2 hat2 (fun _ => rfl)) hS (by show 0 + mc ≤ mc; omega) (by show 0 + ms ≤ ms; omega) dL_program_15
def hh_block : List (Nat × Nat × Nat × Nat) := [(0, 12, 15, 19), (0, 12, 19, 21), (0, 12, 23, 13)]
set_option maxRecDepth 100000 in
set_option maxHeartbeats 4000000 in
theorem w_block {D : va_G} {cI cZ cO cJ : ClassId} {t0 mi : Nat} (l : Launch) (L : Lay) (σ : St) (ow : Nat → Prop) (o : Nat) (v1 v2 v3 : Int32) {fr lo mc ms e9 : Nat} {r : Int32} {σ' : St} (hM : YI D cI cZ cO t0 mi l yX8_block cX8_block 5 (some FieldType.int) fr lo mc ms [.ref (L 899 0), .int v1, .int v2, .int v3] L σ ow e9 r σ') (he : e9 = 0 ∨ e9 = 1 ∨ e9 = 2 ∨ e9 = 3) : LI D cI cZ cO cJ t0 mi l yL_block cL_block 6 hh_block (fr + 1) (lo + 40) mc ms [.ref (L 899 0), .int v1, .int v2, .int v3, .ref o] L σ ow o e9 (wk [1, 2, 3] e9) r σ' := by
  refine l_of rfl (Nat.le_of_ble_eq_true rfl) ?_
  intro p e s m args below meth c ls f X ht hK hC hE hX9 ho hos hat hN hr hlocks hl
  have X : CallFix p m c cL_block 6 s args TB RL := X
  have hx := X.1
  have hb := X.2.1
  have hl : lv_has ls 6 [(0, .ref (L 899 0)), (1, .int v1), (2, .int v2), (3, .int v3), (4, .ref o)] := hl
  have hS : va_S (fun q => AA ow s.heap.size q ∨ q = o) s.heap s.heap [] := va_S.rf
  have hOA : ∀ q, ow q → AA ow s.heap.size q ∨ q = o := fun q h => Or.inl (Or.inl h)
  have hNA : ∀ q, s.heap.size ≤ q → AA ow s.heap.size q ∨ q = o := fun q h => Or.inl (Or.inr h)
  refine lv_aload hx hb dL_block_0 (lv_at hl 4 rfl) ?_
  refine lv_iconst (v := nI 0) hx hb dL_block_2 (by decide) ?_
  refine lv_aload_n hx hb dL_block_3 rfl (lv_at hl 0 rfl) ?_
  refine lv_iload_n hx hb dL_block_4 rfl (lv_at hl 1 rfl) ?_
  refine lv_iload_n hx hb dL_block_5 rfl (lv_at hl 2 rfl) ?_
  refine lv_iload_n hx hb dL_block_6 rfl (lv_at hl 3 rfl) ?_
  refine y_calliK (As := [.int v1, .int v2, .int v3]) (rest := [.int (nI 0), .ref o]) X (kk_kj hK) hC hS hOA hNA hE hX9 yvX8_block ml_L_15 kX8 rfl (cd_fix (by decide)) hM rfl hl.1 rfl (Nat.le_of_ble_eq_true rfl) ⟨by show fr + 1 ≤ fr + 1; omega, by show 8 + (5 + 11) + lo ≤ lo + 40; omega⟩ ⟨by show 0 + mc ≤ mc; omega, by show 0 + ms ≤ ms; omega⟩ dL_block_7 (fun hne H1 locs1 q ce hB hk hS hq hv hcl => ?_) (fun h0 H1 locs1 hB hz hk hS => ?_)
  · have hat1 : va_at D vwCl (o, eLng cJ f) H1 := hat.kept (hk o hos (fun z => z.elim ho (fun y => by omega)))
    rcases he with rfl | rfl | rfl | rfl
    · exact absurd rfl hne
    · refine vx_catch (name := XTc 1) X.2.2.2.1 [] ⟨0, 12, 15, 19⟩ [⟨0, 12, 19, 21⟩, ⟨0, 12, 23, 13⟩] ht (fun z hz => absurd hz List.not_mem_nil) rfl (by decide) (X.2.2.2.2 _ (cp_link 1 (by decide))) (ex_cast hX9 (by decide)) hq hv hcl ?_
      refine lv_astore (lv' := [(5, .ref q), (0, .ref (L 899 0)), (1, .int v1), (2, .int v2), (3, .int v3), (4, .ref o)]) hx hb dL_block_15 hl (by decide) rfl (fun ls hl => ?_)
      refine lv_iconst (v := nI (wk [1, 2, 3] 1)) hx hb dL_block_17 (by decide) ?_
      exact l_ret X hr hlocks (lb_of hB ho hos (fun _ _ => rfl) hat1 (fun z => absurd z hne)) hS (by show 0 + mc ≤ mc; omega) (by show 0 + ms ≤ ms; omega) dL_block_18
    · refine vx_catch (name := XTc 2) X.2.2.2.1 [⟨0, 12, 15, 19⟩] ⟨0, 12, 19, 21⟩ [⟨0, 12, 23, 13⟩] ht (fun z hz => by
        simp only [List.mem_cons, List.not_mem_nil, or_false] at hz
        rcases hz with rfl
        · exact Or.inr ⟨by decide, XTc 1, X.2.2.2.2 _ (cp_link 1 (by decide)), hN.1⟩) rfl (by decide) (X.2.2.2.2 _ (cp_link 2 (by decide))) (ex_cast hX9 (by decide)) hq hv hcl ?_
      refine lv_astore (lv' := [(5, .ref q), (0, .ref (L 899 0)), (1, .int v1), (2, .int v2), (3, .int v3), (4, .ref o)]) hx hb dL_block_19 hl (by decide) rfl (fun ls hl => ?_)
      refine lv_iconst (v := nI (wk [1, 2, 3] 2)) hx hb dL_block_21 (by decide) ?_
      exact l_ret X hr hlocks (lb_of hB ho hos (fun _ _ => rfl) hat1 (fun z => absurd z hne)) hS (by show 0 + mc ≤ mc; omega) (by show 0 + ms ≤ ms; omega) dL_block_22
    · refine vx_catch (name := XTc 3) X.2.2.2.1 [⟨0, 12, 15, 19⟩, ⟨0, 12, 19, 21⟩] ⟨0, 12, 23, 13⟩ [] ht (fun z hz => by
        simp only [List.mem_cons, List.not_mem_nil, or_false] at hz
        rcases hz with rfl | rfl
        · exact Or.inr ⟨by decide, XTc 1, X.2.2.2.2 _ (cp_link 1 (by decide)), hN.2.1⟩
        · exact Or.inr ⟨by decide, XTc 2, X.2.2.2.2 _ (cp_link 2 (by decide)), hN.2.2⟩) rfl (by decide) (X.2.2.2.2 _ (cp_link 3 (by decide))) (ex_cast hX9 (by decide)) hq hv hcl ?_
      refine lv_astore (lv' := [(5, .ref q), (0, .ref (L 899 0)), (1, .int v1), (2, .int v2), (3, .int v3), (4, .ref o)]) hx hb dL_block_23 hl (by decide) rfl (fun ls hl => ?_)
      refine lv_iconst (v := nI (wk [1, 2, 3] 3)) hx hb dL_block_25 (by decide) ?_
      exact l_ret X hr hlocks (lb_of hB ho hos (fun _ _ => rfl) hat1 (fun z => absurd z hne)) hS (by show 0 + mc ≤ mc; omega) (by show 0 + ms ≤ ms; omega) dL_block_26
  · have hat1 : va_at D vwCl (o, eLng cJ f) H1 := hat.kept (hk o hos (fun z => z.elim ho (fun y => by omega)))
    subst h0
    refine lv_i2l (v := r.toInt64) hx hb dL_block_10 rfl ?_
    refine pj_last X hK hat1 hS (Or.inr rfl) dL_block_11 (fun H2 locs2 hat2 hz2 hk2 hS => ?_)
    refine lv_goto (tgt := 27) hx hb dL_block_12 (by decide) ?_
    refine lv_iconst (v := nI (wk [1, 2, 3] 0)) hx hb dL_block_27 (by decide) ?_
    exact l_ret X hr hlocks (lb_of hB ho hos hk2 hat2 (fun _ => rfl)) hS (by show 0 + mc ≤ mc; omega) (by show 0 + ms ≤ ms; omega) dL_block_28
def hh_map : List (Nat × Nat × Nat × Nat) := [(0, 10, 13, 21)]
set_option maxRecDepth 100000 in
set_option maxHeartbeats 4000000 in
theorem w_map {D : va_G} {cI cZ cO cJ : ClassId} {t0 mi : Nat} (l : Launch) (L : Lay) (σ : St) (ow : Nat → Prop) (o : Nat) (v1 v2 : Int32) {fr lo mc ms e9 : Nat} {r : Int32} {σ' : St} (hM : YI D cI cZ cO t0 mi l yX8_map cX8_map 4 (some FieldType.int) fr lo mc ms [.ref (L 899 0), .int v1, .int v2] L σ ow e9 r σ') (he : e9 = 0 ∨ e9 = 2) : LI D cI cZ cO cJ t0 mi l yL_map cL_map 5 hh_map (fr + 1) (lo + 40) mc ms [.ref (L 899 0), .int v1, .int v2, .ref o] L σ ow o e9 (wk [2] e9) r σ' := by
  refine l_of rfl (Nat.le_of_ble_eq_true rfl) ?_
  intro p e s m args below meth c ls f X ht hK hC hE hX9 ho hos hat hN hr hlocks hl
  have X : CallFix p m c cL_map 5 s args TB RL := X
  have hx := X.1
  have hb := X.2.1
  have hl : lv_has ls 5 [(0, .ref (L 899 0)), (1, .int v1), (2, .int v2), (3, .ref o)] := hl
  have hS : va_S (fun q => AA ow s.heap.size q ∨ q = o) s.heap s.heap [] := va_S.rf
  have hOA : ∀ q, ow q → AA ow s.heap.size q ∨ q = o := fun q h => Or.inl (Or.inl h)
  have hNA : ∀ q, s.heap.size ≤ q → AA ow s.heap.size q ∨ q = o := fun q h => Or.inl (Or.inr h)
  refine lv_aload_n hx hb dL_map_0 rfl (lv_at hl 3 rfl) ?_
  refine lv_iconst (v := nI 0) hx hb dL_map_1 (by decide) ?_
  refine lv_aload_n hx hb dL_map_2 rfl (lv_at hl 0 rfl) ?_
  refine lv_iload_n hx hb dL_map_3 rfl (lv_at hl 1 rfl) ?_
  refine lv_iload_n hx hb dL_map_4 rfl (lv_at hl 2 rfl) ?_
  refine y_calliK (As := [.int v1, .int v2]) (rest := [.int (nI 0), .ref o]) X (kk_kj hK) hC hS hOA hNA hE hX9 yvX8_map ml_L_23 kX8 rfl (cd_fix (by decide)) hM rfl hl.1 rfl (Nat.le_of_ble_eq_true rfl) ⟨by show fr + 1 ≤ fr + 1; omega, by show 8 + (4 + 11) + lo ≤ lo + 40; omega⟩ ⟨by show 0 + mc ≤ mc; omega, by show 0 + ms ≤ ms; omega⟩ dL_map_5 (fun hne H1 locs1 q ce hB hk hS hq hv hcl => ?_) (fun h0 H1 locs1 hB hz hk hS => ?_)
  · have hat1 : va_at D vwCl (o, eLng cJ f) H1 := hat.kept (hk o hos (fun z => z.elim ho (fun y => by omega)))
    rcases he with rfl | rfl
    · exact absurd rfl hne
    · refine vx_catch (name := XTc 2) X.2.2.2.1 [] ⟨0, 10, 13, 21⟩ [] ht (fun z hz => absurd hz List.not_mem_nil) rfl (by decide) (X.2.2.2.2 _ (cp_link 2 (by decide))) (ex_cast hX9 (by decide)) hq hv hcl ?_
      refine lv_astore (lv' := [(4, .ref q), (0, .ref (L 899 0)), (1, .int v1), (2, .int v2), (3, .ref o)]) hx hb dL_map_13 hl (by decide) rfl (fun ls hl => ?_)
      refine lv_iconst (v := nI (wk [2] 2)) hx hb dL_map_15 (by decide) ?_
      exact l_ret X hr hlocks (lb_of hB ho hos (fun _ _ => rfl) hat1 (fun z => absurd z hne)) hS (by show 0 + mc ≤ mc; omega) (by show 0 + ms ≤ ms; omega) dL_map_16
  · have hat1 : va_at D vwCl (o, eLng cJ f) H1 := hat.kept (hk o hos (fun z => z.elim ho (fun y => by omega)))
    subst h0
    refine lv_i2l (v := r.toInt64) hx hb dL_map_8 rfl ?_
    refine pj_last X hK hat1 hS (Or.inr rfl) dL_map_9 (fun H2 locs2 hat2 hz2 hk2 hS => ?_)
    refine lv_goto (tgt := 17) hx hb dL_map_10 (by decide) ?_
    refine lv_iconst (v := nI (wk [2] 0)) hx hb dL_map_17 (by decide) ?_
    exact l_ret X hr hlocks (lb_of hB ho hos hk2 hat2 (fun _ => rfl)) hS (by show 0 + mc ≤ mc; omega) (by show 0 + ms ≤ ms; omega) dL_map_18
def hh_tool : List (Nat × Nat × Nat × Nat) := [(0, 10, 13, 21), (0, 10, 17, 13)]
set_option maxRecDepth 100000 in
set_option maxHeartbeats 4000000 in
theorem w_tool {D : va_G} {cI cZ cO cJ : ClassId} {t0 mi : Nat} (l : Launch) (L : Lay) (σ : St) (ow : Nat → Prop) (o : Nat) (v1 v2 : Int32) {fr lo mc ms e9 : Nat} {r : Int32} {σ' : St} (hM : YI D cI cZ cO t0 mi l yX8_tool cX8_tool 3 (some FieldType.int) fr lo mc ms [.ref (L 899 0), .int v1, .int v2] L σ ow e9 r σ') (he : e9 = 0 ∨ e9 = 2 ∨ e9 = 3) : LI D cI cZ cO cJ t0 mi l yL_tool cL_tool 5 hh_tool (fr + 1) (lo + 40) mc ms [.ref (L 899 0), .int v1, .int v2, .ref o] L σ ow o e9 (wk [2, 3] e9) r σ' := by
  refine l_of rfl (Nat.le_of_ble_eq_true rfl) ?_
  intro p e s m args below meth c ls f X ht hK hC hE hX9 ho hos hat hN hr hlocks hl
  have X : CallFix p m c cL_tool 5 s args TB RL := X
  have hx := X.1
  have hb := X.2.1
  have hl : lv_has ls 5 [(0, .ref (L 899 0)), (1, .int v1), (2, .int v2), (3, .ref o)] := hl
  have hS : va_S (fun q => AA ow s.heap.size q ∨ q = o) s.heap s.heap [] := va_S.rf
  have hOA : ∀ q, ow q → AA ow s.heap.size q ∨ q = o := fun q h => Or.inl (Or.inl h)
  have hNA : ∀ q, s.heap.size ≤ q → AA ow s.heap.size q ∨ q = o := fun q h => Or.inl (Or.inr h)
  refine lv_aload_n hx hb dL_tool_0 rfl (lv_at hl 3 rfl) ?_
  refine lv_iconst (v := nI 0) hx hb dL_tool_1 (by decide) ?_
  refine lv_aload_n hx hb dL_tool_2 rfl (lv_at hl 0 rfl) ?_
  refine lv_iload_n hx hb dL_tool_3 rfl (lv_at hl 1 rfl) ?_
  refine lv_iload_n hx hb dL_tool_4 rfl (lv_at hl 2 rfl) ?_
  refine y_calliK (As := [.int v1, .int v2]) (rest := [.int (nI 0), .ref o]) X (kk_kj hK) hC hS hOA hNA hE hX9 yvX8_tool ml_L_27 kX8 rfl (cd_fix (by decide)) hM rfl hl.1 rfl (Nat.le_of_ble_eq_true rfl) ⟨by show fr + 1 ≤ fr + 1; omega, by show 8 + (3 + 11) + lo ≤ lo + 40; omega⟩ ⟨by show 0 + mc ≤ mc; omega, by show 0 + ms ≤ ms; omega⟩ dL_tool_5 (fun hne H1 locs1 q ce hB hk hS hq hv hcl => ?_) (fun h0 H1 locs1 hB hz hk hS => ?_)
  · have hat1 : va_at D vwCl (o, eLng cJ f) H1 := hat.kept (hk o hos (fun z => z.elim ho (fun y => by omega)))
    rcases he with rfl | rfl | rfl
    · exact absurd rfl hne
    · refine vx_catch (name := XTc 2) X.2.2.2.1 [] ⟨0, 10, 13, 21⟩ [⟨0, 10, 17, 13⟩] ht (fun z hz => absurd hz List.not_mem_nil) rfl (by decide) (X.2.2.2.2 _ (cp_link 2 (by decide))) (ex_cast hX9 (by decide)) hq hv hcl ?_
      refine lv_astore (lv' := [(4, .ref q), (0, .ref (L 899 0)), (1, .int v1), (2, .int v2), (3, .ref o)]) hx hb dL_tool_13 hl (by decide) rfl (fun ls hl => ?_)
      refine lv_iconst (v := nI (wk [2, 3] 2)) hx hb dL_tool_15 (by decide) ?_
      exact l_ret X hr hlocks (lb_of hB ho hos (fun _ _ => rfl) hat1 (fun z => absurd z hne)) hS (by show 0 + mc ≤ mc; omega) (by show 0 + ms ≤ ms; omega) dL_tool_16
    · refine vx_catch (name := XTc 3) X.2.2.2.1 [⟨0, 10, 13, 21⟩] ⟨0, 10, 17, 13⟩ [] ht (fun z hz => by
        simp only [List.mem_cons, List.not_mem_nil, or_false] at hz
        rcases hz with rfl
        · exact Or.inr ⟨by decide, XTc 2, X.2.2.2.2 _ (cp_link 2 (by decide)), hN.2.2⟩) rfl (by decide) (X.2.2.2.2 _ (cp_link 3 (by decide))) (ex_cast hX9 (by decide)) hq hv hcl ?_
      refine lv_astore (lv' := [(4, .ref q), (0, .ref (L 899 0)), (1, .int v1), (2, .int v2), (3, .ref o)]) hx hb dL_tool_17 hl (by decide) rfl (fun ls hl => ?_)
      refine lv_iconst (v := nI (wk [2, 3] 3)) hx hb dL_tool_19 (by decide) ?_
      exact l_ret X hr hlocks (lb_of hB ho hos (fun _ _ => rfl) hat1 (fun z => absurd z hne)) hS (by show 0 + mc ≤ mc; omega) (by show 0 + ms ≤ ms; omega) dL_tool_20
  · have hat1 : va_at D vwCl (o, eLng cJ f) H1 := hat.kept (hk o hos (fun z => z.elim ho (fun y => by omega)))
    subst h0
    refine lv_i2l (v := r.toInt64) hx hb dL_tool_8 rfl ?_
    refine pj_last X hK hat1 hS (Or.inr rfl) dL_tool_9 (fun H2 locs2 hat2 hz2 hk2 hS => ?_)
    refine lv_goto (tgt := 21) hx hb dL_tool_10 (by decide) ?_
    refine lv_iconst (v := nI (wk [2, 3] 0)) hx hb dL_tool_21 (by decide) ?_
    exact l_ret X hr hlocks (lb_of hB ho hos hk2 hat2 (fun _ => rfl)) hS (by show 0 + mc ≤ mc; omega) (by show 0 + ms ≤ ms; omega) dL_tool_22
def hh_load : List (Nat × Nat × Nat × Nat) := [(0, 10, 13, 19), (0, 10, 17, 13)]
set_option maxRecDepth 100000 in
set_option maxHeartbeats 4000000 in
theorem w_load {D : va_G} {cI cZ cO cJ : ClassId} {t0 mi : Nat} (l : Launch) (L : Lay) (σ : St) (ow : Nat → Prop) (o : Nat) (v1 v2 : Int32) {fr lo mc ms e9 : Nat} {r : Int32} {σ' : St} (hM : YI D cI cZ cO t0 mi l yX8_load cX8_load 4 (some FieldType.int) fr lo mc ms [.ref (L 899 0), .int v1, .int v2] L σ ow e9 r σ') (he : e9 = 0 ∨ e9 = 1 ∨ e9 = 3) : LI D cI cZ cO cJ t0 mi l yL_load cL_load 5 hh_load (fr + 1) (lo + 40) mc ms [.ref (L 899 0), .int v1, .int v2, .ref o] L σ ow o e9 (wk [1, 3] e9) r σ' := by
  refine l_of rfl (Nat.le_of_ble_eq_true rfl) ?_
  intro p e s m args below meth c ls f X ht hK hC hE hX9 ho hos hat hN hr hlocks hl
  have X : CallFix p m c cL_load 5 s args TB RL := X
  have hx := X.1
  have hb := X.2.1
  have hl : lv_has ls 5 [(0, .ref (L 899 0)), (1, .int v1), (2, .int v2), (3, .ref o)] := hl
  have hS : va_S (fun q => AA ow s.heap.size q ∨ q = o) s.heap s.heap [] := va_S.rf
  have hOA : ∀ q, ow q → AA ow s.heap.size q ∨ q = o := fun q h => Or.inl (Or.inl h)
  have hNA : ∀ q, s.heap.size ≤ q → AA ow s.heap.size q ∨ q = o := fun q h => Or.inl (Or.inr h)
  refine lv_aload_n hx hb dL_load_0 rfl (lv_at hl 3 rfl) ?_
  refine lv_iconst (v := nI 0) hx hb dL_load_1 (by decide) ?_
  refine lv_aload_n hx hb dL_load_2 rfl (lv_at hl 0 rfl) ?_
  refine lv_iload_n hx hb dL_load_3 rfl (lv_at hl 1 rfl) ?_
  refine lv_iload_n hx hb dL_load_4 rfl (lv_at hl 2 rfl) ?_
  refine y_calliK (As := [.int v1, .int v2]) (rest := [.int (nI 0), .ref o]) X (kk_kj hK) hC hS hOA hNA hE hX9 yvX8_load ml_L_30 kX8 rfl (cd_fix (by decide)) hM rfl hl.1 rfl (Nat.le_of_ble_eq_true rfl) ⟨by show fr + 1 ≤ fr + 1; omega, by show 8 + (4 + 11) + lo ≤ lo + 40; omega⟩ ⟨by show 0 + mc ≤ mc; omega, by show 0 + ms ≤ ms; omega⟩ dL_load_5 (fun hne H1 locs1 q ce hB hk hS hq hv hcl => ?_) (fun h0 H1 locs1 hB hz hk hS => ?_)
  · have hat1 : va_at D vwCl (o, eLng cJ f) H1 := hat.kept (hk o hos (fun z => z.elim ho (fun y => by omega)))
    rcases he with rfl | rfl | rfl
    · exact absurd rfl hne
    · refine vx_catch (name := XTc 1) X.2.2.2.1 [] ⟨0, 10, 13, 19⟩ [⟨0, 10, 17, 13⟩] ht (fun z hz => absurd hz List.not_mem_nil) rfl (by decide) (X.2.2.2.2 _ (cp_link 1 (by decide))) (ex_cast hX9 (by decide)) hq hv hcl ?_
      refine lv_astore (lv' := [(4, .ref q), (0, .ref (L 899 0)), (1, .int v1), (2, .int v2), (3, .ref o)]) hx hb dL_load_13 hl (by decide) rfl (fun ls hl => ?_)
      refine lv_iconst (v := nI (wk [1, 3] 1)) hx hb dL_load_15 (by decide) ?_
      exact l_ret X hr hlocks (lb_of hB ho hos (fun _ _ => rfl) hat1 (fun z => absurd z hne)) hS (by show 0 + mc ≤ mc; omega) (by show 0 + ms ≤ ms; omega) dL_load_16
    · refine vx_catch (name := XTc 3) X.2.2.2.1 [⟨0, 10, 13, 19⟩] ⟨0, 10, 17, 13⟩ [] ht (fun z hz => by
        simp only [List.mem_cons, List.not_mem_nil, or_false] at hz
        rcases hz with rfl
        · exact Or.inr ⟨by decide, XTc 1, X.2.2.2.2 _ (cp_link 1 (by decide)), hN.2.1⟩) rfl (by decide) (X.2.2.2.2 _ (cp_link 3 (by decide))) (ex_cast hX9 (by decide)) hq hv hcl ?_
      refine lv_astore (lv' := [(4, .ref q), (0, .ref (L 899 0)), (1, .int v1), (2, .int v2), (3, .ref o)]) hx hb dL_load_17 hl (by decide) rfl (fun ls hl => ?_)
      refine lv_iconst (v := nI (wk [1, 3] 3)) hx hb dL_load_19 (by decide) ?_
      exact l_ret X hr hlocks (lb_of hB ho hos (fun _ _ => rfl) hat1 (fun z => absurd z hne)) hS (by show 0 + mc ≤ mc; omega) (by show 0 + ms ≤ ms; omega) dL_load_20
  · have hat1 : va_at D vwCl (o, eLng cJ f) H1 := hat.kept (hk o hos (fun z => z.elim ho (fun y => by omega)))
    subst h0
    refine lv_i2l (v := r.toInt64) hx hb dL_load_8 rfl ?_
    refine pj_last X hK hat1 hS (Or.inr rfl) dL_load_9 (fun H2 locs2 hat2 hz2 hk2 hS => ?_)
    refine lv_goto (tgt := 21) hx hb dL_load_10 (by decide) ?_
    refine lv_iconst (v := nI (wk [1, 3] 0)) hx hb dL_load_21 (by decide) ?_
    exact l_ret X hr hlocks (lb_of hB ho hos hk2 hat2 (fun _ => rfl)) hS (by show 0 + mc ≤ mc; omega) (by show 0 + ms ≤ ms; omega) dL_load_22
def hh_pallet : List (Nat × Nat × Nat × Nat) := [(0, 9, 12, 21), (0, 9, 15, 13)]
set_option maxRecDepth 100000 in
set_option maxHeartbeats 4000000 in
theorem w_pallet {D : va_G} {cI cZ cO cJ : ClassId} {t0 mi : Nat} (l : Launch) (L : Lay) (σ : St) (ow : Nat → Prop) (o : Nat) (v1 : Int32) {fr lo mc ms e9 : Nat} {r : Int32} {σ' : St} (hM : YI D cI cZ cO t0 mi l yX8_pallet cX8_pallet 2 (some FieldType.int) fr lo mc ms [.ref (L 899 0), .int v1] L σ ow e9 r σ') (he : e9 = 0 ∨ e9 = 2 ∨ e9 = 3) : LI D cI cZ cO cJ t0 mi l yL_pallet cL_pallet 4 hh_pallet (fr + 1) (lo + 40) mc ms [.ref (L 899 0), .int v1, .ref o] L σ ow o e9 (wk [2, 3] e9) r σ' := by
  refine l_of rfl (Nat.le_of_ble_eq_true rfl) ?_
  intro p e s m args below meth c ls f X ht hK hC hE hX9 ho hos hat hN hr hlocks hl
  have X : CallFix p m c cL_pallet 4 s args TB RL := X
  have hx := X.1
  have hb := X.2.1
  have hl : lv_has ls 4 [(0, .ref (L 899 0)), (1, .int v1), (2, .ref o)] := hl
  have hS : va_S (fun q => AA ow s.heap.size q ∨ q = o) s.heap s.heap [] := va_S.rf
  have hOA : ∀ q, ow q → AA ow s.heap.size q ∨ q = o := fun q h => Or.inl (Or.inl h)
  have hNA : ∀ q, s.heap.size ≤ q → AA ow s.heap.size q ∨ q = o := fun q h => Or.inl (Or.inr h)
  refine lv_aload_n hx hb dL_pallet_0 rfl (lv_at hl 2 rfl) ?_
  refine lv_iconst (v := nI 0) hx hb dL_pallet_1 (by decide) ?_
  refine lv_aload_n hx hb dL_pallet_2 rfl (lv_at hl 0 rfl) ?_
  refine lv_iload_n hx hb dL_pallet_3 rfl (lv_at hl 1 rfl) ?_
  refine y_calliK (As := [.int v1]) (rest := [.int (nI 0), .ref o]) X (kk_kj hK) hC hS hOA hNA hE hX9 yvX8_pallet ml_L_34 kX8 rfl (cd_fix (by decide)) hM rfl hl.1 rfl (Nat.le_of_ble_eq_true rfl) ⟨by show fr + 1 ≤ fr + 1; omega, by show 8 + (2 + 11) + lo ≤ lo + 40; omega⟩ ⟨by show 0 + mc ≤ mc; omega, by show 0 + ms ≤ ms; omega⟩ dL_pallet_4 (fun hne H1 locs1 q ce hB hk hS hq hv hcl => ?_) (fun h0 H1 locs1 hB hz hk hS => ?_)
  · have hat1 : va_at D vwCl (o, eLng cJ f) H1 := hat.kept (hk o hos (fun z => z.elim ho (fun y => by omega)))
    rcases he with rfl | rfl | rfl
    · exact absurd rfl hne
    · refine vx_catch (name := XTc 2) X.2.2.2.1 [] ⟨0, 9, 12, 21⟩ [⟨0, 9, 15, 13⟩] ht (fun z hz => absurd hz List.not_mem_nil) rfl (by decide) (X.2.2.2.2 _ (cp_link 2 (by decide))) (ex_cast hX9 (by decide)) hq hv hcl ?_
      refine lv_astore_n (lv' := [(3, .ref q), (0, .ref (L 899 0)), (1, .int v1), (2, .ref o)]) hx hb dL_pallet_12 rfl hl (by decide) rfl (fun ls hl => ?_)
      refine lv_iconst (v := nI (wk [2, 3] 2)) hx hb dL_pallet_13 (by decide) ?_
      exact l_ret X hr hlocks (lb_of hB ho hos (fun _ _ => rfl) hat1 (fun z => absurd z hne)) hS (by show 0 + mc ≤ mc; omega) (by show 0 + ms ≤ ms; omega) dL_pallet_14
    · refine vx_catch (name := XTc 3) X.2.2.2.1 [⟨0, 9, 12, 21⟩] ⟨0, 9, 15, 13⟩ [] ht (fun z hz => by
        simp only [List.mem_cons, List.not_mem_nil, or_false] at hz
        rcases hz with rfl
        · exact Or.inr ⟨by decide, XTc 2, X.2.2.2.2 _ (cp_link 2 (by decide)), hN.2.2⟩) rfl (by decide) (X.2.2.2.2 _ (cp_link 3 (by decide))) (ex_cast hX9 (by decide)) hq hv hcl ?_
      refine lv_astore_n (lv' := [(3, .ref q), (0, .ref (L 899 0)), (1, .int v1), (2, .ref o)]) hx hb dL_pallet_15 rfl hl (by decide) rfl (fun ls hl => ?_)
      refine lv_iconst (v := nI (wk [2, 3] 3)) hx hb dL_pallet_16 (by decide) ?_
      exact l_ret X hr hlocks (lb_of hB ho hos (fun _ _ => rfl) hat1 (fun z => absurd z hne)) hS (by show 0 + mc ≤ mc; omega) (by show 0 + ms ≤ ms; omega) dL_pallet_17
  · have hat1 : va_at D vwCl (o, eLng cJ f) H1 := hat.kept (hk o hos (fun z => z.elim ho (fun y => by omega)))
    subst h0
    refine lv_i2l (v := r.toInt64) hx hb dL_pallet_7 rfl ?_
    refine pj_last X hK hat1 hS (Or.inr rfl) dL_pallet_8 (fun H2 locs2 hat2 hz2 hk2 hS => ?_)
    refine lv_goto (tgt := 18) hx hb dL_pallet_9 (by decide) ?_
    refine lv_iconst (v := nI (wk [2, 3] 0)) hx hb dL_pallet_18 (by decide) ?_
    exact l_ret X hr hlocks (lb_of hB ho hos hk2 hat2 (fun _ => rfl)) hS (by show 0 + mc ≤ mc; omega) (by show 0 + ms ≤ ms; omega) dL_pallet_19
def hh_clamp : List (Nat × Nat × Nat × Nat) := [(0, 14, 17, 19), (0, 14, 21, 21), (0, 14, 25, 13)]
set_option maxRecDepth 100000 in
set_option maxHeartbeats 4000000 in
theorem w_clamp {D : va_G} {cI cZ cO cJ : ClassId} {t0 mi : Nat} (l : Launch) (L : Lay) (σ : St) (ow : Nat → Prop) (o : Nat) (v1 v2 v3 v4 : Int32) {fr lo mc ms e9 : Nat} {r : Int32} {σ' : St} (hM : YI D cI cZ cO t0 mi l yX8_clamp cX8_clamp 7 (some FieldType.int) fr lo mc ms [.ref (L 899 0), .int v1, .int v2, .int v3, .int v4] L σ ow e9 r σ') (he : e9 = 0 ∨ e9 = 1 ∨ e9 = 2 ∨ e9 = 3) : LI D cI cZ cO cJ t0 mi l yL_clamp cL_clamp 7 hh_clamp (fr + 1) (lo + 40) mc ms [.ref (L 899 0), .int v1, .int v2, .int v3, .int v4, .ref o] L σ ow o e9 (wk [1, 2, 3] e9) r σ' := by
  refine l_of rfl (Nat.le_of_ble_eq_true rfl) ?_
  intro p e s m args below meth c ls f X ht hK hC hE hX9 ho hos hat hN hr hlocks hl
  have X : CallFix p m c cL_clamp 7 s args TB RL := X
  have hx := X.1
  have hb := X.2.1
  have hl : lv_has ls 7 [(0, .ref (L 899 0)), (1, .int v1), (2, .int v2), (3, .int v3), (4, .int v4), (5, .ref o)] := hl
  have hS : va_S (fun q => AA ow s.heap.size q ∨ q = o) s.heap s.heap [] := va_S.rf
  have hOA : ∀ q, ow q → AA ow s.heap.size q ∨ q = o := fun q h => Or.inl (Or.inl h)
  have hNA : ∀ q, s.heap.size ≤ q → AA ow s.heap.size q ∨ q = o := fun q h => Or.inl (Or.inr h)
  refine lv_aload hx hb dL_clamp_0 (lv_at hl 5 rfl) ?_
  refine lv_iconst (v := nI 0) hx hb dL_clamp_2 (by decide) ?_
  refine lv_aload_n hx hb dL_clamp_3 rfl (lv_at hl 0 rfl) ?_
  refine lv_iload_n hx hb dL_clamp_4 rfl (lv_at hl 1 rfl) ?_
  refine lv_iload_n hx hb dL_clamp_5 rfl (lv_at hl 2 rfl) ?_
  refine lv_iload_n hx hb dL_clamp_6 rfl (lv_at hl 3 rfl) ?_
  refine lv_iload hx hb dL_clamp_7 (lv_at hl 4 rfl) ?_
  refine y_calliK (As := [.int v1, .int v2, .int v3, .int v4]) (rest := [.int (nI 0), .ref o]) X (kk_kj hK) hC hS hOA hNA hE hX9 yvX8_clamp ml_L_38 kX8 rfl (cd_fix (by decide)) hM rfl hl.1 rfl (Nat.le_of_ble_eq_true rfl) ⟨by show fr + 1 ≤ fr + 1; omega, by show 8 + (7 + 11) + lo ≤ lo + 40; omega⟩ ⟨by show 0 + mc ≤ mc; omega, by show 0 + ms ≤ ms; omega⟩ dL_clamp_9 (fun hne H1 locs1 q ce hB hk hS hq hv hcl => ?_) (fun h0 H1 locs1 hB hz hk hS => ?_)
  · have hat1 : va_at D vwCl (o, eLng cJ f) H1 := hat.kept (hk o hos (fun z => z.elim ho (fun y => by omega)))
    rcases he with rfl | rfl | rfl | rfl
    · exact absurd rfl hne
    · refine vx_catch (name := XTc 1) X.2.2.2.1 [] ⟨0, 14, 17, 19⟩ [⟨0, 14, 21, 21⟩, ⟨0, 14, 25, 13⟩] ht (fun z hz => absurd hz List.not_mem_nil) rfl (by decide) (X.2.2.2.2 _ (cp_link 1 (by decide))) (ex_cast hX9 (by decide)) hq hv hcl ?_
      refine lv_astore (lv' := [(6, .ref q), (0, .ref (L 899 0)), (1, .int v1), (2, .int v2), (3, .int v3), (4, .int v4), (5, .ref o)]) hx hb dL_clamp_17 hl (by decide) rfl (fun ls hl => ?_)
      refine lv_iconst (v := nI (wk [1, 2, 3] 1)) hx hb dL_clamp_19 (by decide) ?_
      exact l_ret X hr hlocks (lb_of hB ho hos (fun _ _ => rfl) hat1 (fun z => absurd z hne)) hS (by show 0 + mc ≤ mc; omega) (by show 0 + ms ≤ ms; omega) dL_clamp_20
    · refine vx_catch (name := XTc 2) X.2.2.2.1 [⟨0, 14, 17, 19⟩] ⟨0, 14, 21, 21⟩ [⟨0, 14, 25, 13⟩] ht (fun z hz => by
        simp only [List.mem_cons, List.not_mem_nil, or_false] at hz
        rcases hz with rfl
        · exact Or.inr ⟨by decide, XTc 1, X.2.2.2.2 _ (cp_link 1 (by decide)), hN.1⟩) rfl (by decide) (X.2.2.2.2 _ (cp_link 2 (by decide))) (ex_cast hX9 (by decide)) hq hv hcl ?_
      refine lv_astore (lv' := [(6, .ref q), (0, .ref (L 899 0)), (1, .int v1), (2, .int v2), (3, .int v3), (4, .int v4), (5, .ref o)]) hx hb dL_clamp_21 hl (by decide) rfl (fun ls hl => ?_)
      refine lv_iconst (v := nI (wk [1, 2, 3] 2)) hx hb dL_clamp_23 (by decide) ?_
      exact l_ret X hr hlocks (lb_of hB ho hos (fun _ _ => rfl) hat1 (fun z => absurd z hne)) hS (by show 0 + mc ≤ mc; omega) (by show 0 + ms ≤ ms; omega) dL_clamp_24
    · refine vx_catch (name := XTc 3) X.2.2.2.1 [⟨0, 14, 17, 19⟩, ⟨0, 14, 21, 21⟩] ⟨0, 14, 25, 13⟩ [] ht (fun z hz => by
        simp only [List.mem_cons, List.not_mem_nil, or_false] at hz
        rcases hz with rfl | rfl
        · exact Or.inr ⟨by decide, XTc 1, X.2.2.2.2 _ (cp_link 1 (by decide)), hN.2.1⟩
        · exact Or.inr ⟨by decide, XTc 2, X.2.2.2.2 _ (cp_link 2 (by decide)), hN.2.2⟩) rfl (by decide) (X.2.2.2.2 _ (cp_link 3 (by decide))) (ex_cast hX9 (by decide)) hq hv hcl ?_
      refine lv_astore (lv' := [(6, .ref q), (0, .ref (L 899 0)), (1, .int v1), (2, .int v2), (3, .int v3), (4, .int v4), (5, .ref o)]) hx hb dL_clamp_25 hl (by decide) rfl (fun ls hl => ?_)
      refine lv_iconst (v := nI (wk [1, 2, 3] 3)) hx hb dL_clamp_27 (by decide) ?_
      exact l_ret X hr hlocks (lb_of hB ho hos (fun _ _ => rfl) hat1 (fun z => absurd z hne)) hS (by show 0 + mc ≤ mc; omega) (by show 0 + ms ≤ ms; omega) dL_clamp_28
  · have hat1 : va_at D vwCl (o, eLng cJ f) H1 := hat.kept (hk o hos (fun z => z.elim ho (fun y => by omega)))
    subst h0
    refine lv_i2l (v := r.toInt64) hx hb dL_clamp_12 rfl ?_
    refine pj_last X hK hat1 hS (Or.inr rfl) dL_clamp_13 (fun H2 locs2 hat2 hz2 hk2 hS => ?_)
    refine lv_goto (tgt := 29) hx hb dL_clamp_14 (by decide) ?_
    refine lv_iconst (v := nI (wk [1, 2, 3] 0)) hx hb dL_clamp_29 (by decide) ?_
    exact l_ret X hr hlocks (lb_of hB ho hos hk2 hat2 (fun _ => rfl)) hS (by show 0 + mc ≤ mc; omega) (by show 0 + ms ≤ ms; omega) dL_clamp_30
def hh_prove : List (Nat × Nat × Nat × Nat) := [(0, 10, 13, 19)]
set_option maxRecDepth 100000 in
set_option maxHeartbeats 4000000 in
theorem w_prove {D : va_G} {cI cZ cO cJ : ClassId} {t0 mi : Nat} (l : Launch) (L : Lay) (σ : St) (ow : Nat → Prop) (o : Nat) (v1 v2 : Int32) {fr lo mc ms e9 : Nat} {r : Int32} {σ' : St} (hM : YI D cI cZ cO t0 mi l yX8_prove cX8_prove 3 (some FieldType.int) fr lo mc ms [.ref (L 899 0), .int v1, .int v2] L σ ow e9 r σ') (he : e9 = 0 ∨ e9 = 1) : LI D cI cZ cO cJ t0 mi l yL_prove cL_prove 5 hh_prove (fr + 1) (lo + 40) mc ms [.ref (L 899 0), .int v1, .int v2, .ref o] L σ ow o e9 (wk [1] e9) r σ' := by
  refine l_of rfl (Nat.le_of_ble_eq_true rfl) ?_
  intro p e s m args below meth c ls f X ht hK hC hE hX9 ho hos hat hN hr hlocks hl
  have X : CallFix p m c cL_prove 5 s args TB RL := X
  have hx := X.1
  have hb := X.2.1
  have hl : lv_has ls 5 [(0, .ref (L 899 0)), (1, .int v1), (2, .int v2), (3, .ref o)] := hl
  have hS : va_S (fun q => AA ow s.heap.size q ∨ q = o) s.heap s.heap [] := va_S.rf
  have hOA : ∀ q, ow q → AA ow s.heap.size q ∨ q = o := fun q h => Or.inl (Or.inl h)
  have hNA : ∀ q, s.heap.size ≤ q → AA ow s.heap.size q ∨ q = o := fun q h => Or.inl (Or.inr h)
  refine lv_aload_n hx hb dL_prove_0 rfl (lv_at hl 3 rfl) ?_
  refine lv_iconst (v := nI 0) hx hb dL_prove_1 (by decide) ?_
  refine lv_aload_n hx hb dL_prove_2 rfl (lv_at hl 0 rfl) ?_
  refine lv_iload_n hx hb dL_prove_3 rfl (lv_at hl 1 rfl) ?_
  refine lv_iload_n hx hb dL_prove_4 rfl (lv_at hl 2 rfl) ?_
  refine y_calliK (As := [.int v1, .int v2]) (rest := [.int (nI 0), .ref o]) X (kk_kj hK) hC hS hOA hNA hE hX9 yvX8_prove ml_L_42 kX8 rfl (cd_fix (by decide)) hM rfl hl.1 rfl (Nat.le_of_ble_eq_true rfl) ⟨by show fr + 1 ≤ fr + 1; omega, by show 8 + (3 + 11) + lo ≤ lo + 40; omega⟩ ⟨by show 0 + mc ≤ mc; omega, by show 0 + ms ≤ ms; omega⟩ dL_prove_5 (fun hne H1 locs1 q ce hB hk hS hq hv hcl => ?_) (fun h0 H1 locs1 hB hz hk hS => ?_)
  · have hat1 : va_at D vwCl (o, eLng cJ f) H1 := hat.kept (hk o hos (fun z => z.elim ho (fun y => by omega)))
    rcases he with rfl | rfl
    · exact absurd rfl hne
    · refine vx_catch (name := XTc 1) X.2.2.2.1 [] ⟨0, 10, 13, 19⟩ [] ht (fun z hz => absurd hz List.not_mem_nil) rfl (by decide) (X.2.2.2.2 _ (cp_link 1 (by decide))) (ex_cast hX9 (by decide)) hq hv hcl ?_
      refine lv_astore (lv' := [(4, .ref q), (0, .ref (L 899 0)), (1, .int v1), (2, .int v2), (3, .ref o)]) hx hb dL_prove_13 hl (by decide) rfl (fun ls hl => ?_)
      refine lv_iconst (v := nI (wk [1] 1)) hx hb dL_prove_15 (by decide) ?_
      exact l_ret X hr hlocks (lb_of hB ho hos (fun _ _ => rfl) hat1 (fun z => absurd z hne)) hS (by show 0 + mc ≤ mc; omega) (by show 0 + ms ≤ ms; omega) dL_prove_16
  · have hat1 : va_at D vwCl (o, eLng cJ f) H1 := hat.kept (hk o hos (fun z => z.elim ho (fun y => by omega)))
    subst h0
    refine lv_i2l (v := r.toInt64) hx hb dL_prove_8 rfl ?_
    refine pj_last X hK hat1 hS (Or.inr rfl) dL_prove_9 (fun H2 locs2 hat2 hz2 hk2 hS => ?_)
    refine lv_goto (tgt := 17) hx hb dL_prove_10 (by decide) ?_
    refine lv_iconst (v := nI (wk [1] 0)) hx hb dL_prove_17 (by decide) ?_
    exact l_ret X hr hlocks (lb_of hB ho hos hk2 hat2 (fun _ => rfl)) hS (by show 0 + mc ≤ mc; omega) (by show 0 + ms ≤ ms; omega) dL_prove_18
def hh_takes : List (Nat × Nat × Nat × Nat) := [(0, 10, 13, 19)]
set_option maxRecDepth 100000 in
set_option maxHeartbeats 4000000 in
theorem w_takes {D : va_G} {cI cZ cO cJ : ClassId} {t0 mi : Nat} (l : Launch) (L : Lay) (σ : St) (ow : Nat → Prop) (o : Nat) (v1 v2 : Int32) {fr lo mc ms e9 : Nat} {r : Int32} {σ' : St} (hM : YI D cI cZ cO t0 mi l yX8_takes cX8_takes 3 (some FieldType.int) fr lo mc ms [.ref (L 899 0), .int v1, .int v2] L σ ow e9 r σ') (he : e9 = 0 ∨ e9 = 1) : LI D cI cZ cO cJ t0 mi l yL_takes cL_takes 5 hh_takes (fr + 1) (lo + 40) mc ms [.ref (L 899 0), .int v1, .int v2, .ref o] L σ ow o e9 (wk [1] e9) r σ' := by
  refine l_of rfl (Nat.le_of_ble_eq_true rfl) ?_
  intro p e s m args below meth c ls f X ht hK hC hE hX9 ho hos hat hN hr hlocks hl
  have X : CallFix p m c cL_takes 5 s args TB RL := X
  have hx := X.1
  have hb := X.2.1
  have hl : lv_has ls 5 [(0, .ref (L 899 0)), (1, .int v1), (2, .int v2), (3, .ref o)] := hl
  have hS : va_S (fun q => AA ow s.heap.size q ∨ q = o) s.heap s.heap [] := va_S.rf
  have hOA : ∀ q, ow q → AA ow s.heap.size q ∨ q = o := fun q h => Or.inl (Or.inl h)
  have hNA : ∀ q, s.heap.size ≤ q → AA ow s.heap.size q ∨ q = o := fun q h => Or.inl (Or.inr h)
  refine lv_aload_n hx hb dL_takes_0 rfl (lv_at hl 3 rfl) ?_
  refine lv_iconst (v := nI 0) hx hb dL_takes_1 (by decide) ?_
  refine lv_aload_n hx hb dL_takes_2 rfl (lv_at hl 0 rfl) ?_
  refine lv_iload_n hx hb dL_takes_3 rfl (lv_at hl 1 rfl) ?_
  refine lv_iload_n hx hb dL_takes_4 rfl (lv_at hl 2 rfl) ?_
  refine y_calliK (As := [.int v1, .int v2]) (rest := [.int (nI 0), .ref o]) X (kk_kj hK) hC hS hOA hNA hE hX9 yvX8_takes ml_L_45 kX8 rfl (cd_fix (by decide)) hM rfl hl.1 rfl (Nat.le_of_ble_eq_true rfl) ⟨by show fr + 1 ≤ fr + 1; omega, by show 8 + (3 + 11) + lo ≤ lo + 40; omega⟩ ⟨by show 0 + mc ≤ mc; omega, by show 0 + ms ≤ ms; omega⟩ dL_takes_5 (fun hne H1 locs1 q ce hB hk hS hq hv hcl => ?_) (fun h0 H1 locs1 hB hz hk hS => ?_)
  · have hat1 : va_at D vwCl (o, eLng cJ f) H1 := hat.kept (hk o hos (fun z => z.elim ho (fun y => by omega)))
    rcases he with rfl | rfl
    · exact absurd rfl hne
    · refine vx_catch (name := XTc 1) X.2.2.2.1 [] ⟨0, 10, 13, 19⟩ [] ht (fun z hz => absurd hz List.not_mem_nil) rfl (by decide) (X.2.2.2.2 _ (cp_link 1 (by decide))) (ex_cast hX9 (by decide)) hq hv hcl ?_
      refine lv_astore (lv' := [(4, .ref q), (0, .ref (L 899 0)), (1, .int v1), (2, .int v2), (3, .ref o)]) hx hb dL_takes_13 hl (by decide) rfl (fun ls hl => ?_)
      refine lv_iconst (v := nI (wk [1] 1)) hx hb dL_takes_15 (by decide) ?_
      exact l_ret X hr hlocks (lb_of hB ho hos (fun _ _ => rfl) hat1 (fun z => absurd z hne)) hS (by show 0 + mc ≤ mc; omega) (by show 0 + ms ≤ ms; omega) dL_takes_16
  · have hat1 : va_at D vwCl (o, eLng cJ f) H1 := hat.kept (hk o hos (fun z => z.elim ho (fun y => by omega)))
    subst h0
    refine lv_i2l (v := r.toInt64) hx hb dL_takes_8 rfl ?_
    refine pj_last X hK hat1 hS (Or.inr rfl) dL_takes_9 (fun H2 locs2 hat2 hz2 hk2 hS => ?_)
    refine lv_goto (tgt := 17) hx hb dL_takes_10 (by decide) ?_
    refine lv_iconst (v := nI (wk [1] 0)) hx hb dL_takes_17 (by decide) ?_
    exact l_ret X hr hlocks (lb_of hB ho hos hk2 hat2 (fun _ => rfl)) hS (by show 0 + mc ≤ mc; omega) (by show 0 + ms ≤ ms; omega) dL_takes_18
def hh_plan : List (Nat × Nat × Nat × Nat) := [(0, 10, 13, 19), (0, 10, 17, 13)]
set_option maxRecDepth 100000 in
set_option maxHeartbeats 4000000 in
theorem w_plan {D : va_G} {cI cZ cO cJ : ClassId} {t0 mi : Nat} (l : Launch) (L : Lay) (σ : St) (ow : Nat → Prop) (o : Nat) (v1 v2 : Int32) {fr lo mc ms e9 : Nat} {r : Int32} {σ' : St} (hM : YI D cI cZ cO t0 mi l yX8_plan cX8_plan 4 (some FieldType.int) fr lo mc ms [.ref (L 899 0), .int v1, .int v2] L σ ow e9 r σ') (he : e9 = 0 ∨ e9 = 1 ∨ e9 = 3) : LI D cI cZ cO cJ t0 mi l yL_plan cL_plan 5 hh_plan (fr + 1) (lo + 40) mc ms [.ref (L 899 0), .int v1, .int v2, .ref o] L σ ow o e9 (wk [1, 3] e9) r σ' := by
  refine l_of rfl (Nat.le_of_ble_eq_true rfl) ?_
  intro p e s m args below meth c ls f X ht hK hC hE hX9 ho hos hat hN hr hlocks hl
  have X : CallFix p m c cL_plan 5 s args TB RL := X
  have hx := X.1
  have hb := X.2.1
  have hl : lv_has ls 5 [(0, .ref (L 899 0)), (1, .int v1), (2, .int v2), (3, .ref o)] := hl
  have hS : va_S (fun q => AA ow s.heap.size q ∨ q = o) s.heap s.heap [] := va_S.rf
  have hOA : ∀ q, ow q → AA ow s.heap.size q ∨ q = o := fun q h => Or.inl (Or.inl h)
  have hNA : ∀ q, s.heap.size ≤ q → AA ow s.heap.size q ∨ q = o := fun q h => Or.inl (Or.inr h)
  refine lv_aload_n hx hb dL_plan_0 rfl (lv_at hl 3 rfl) ?_
  refine lv_iconst (v := nI 0) hx hb dL_plan_1 (by decide) ?_
  refine lv_aload_n hx hb dL_plan_2 rfl (lv_at hl 0 rfl) ?_
  refine lv_iload_n hx hb dL_plan_3 rfl (lv_at hl 1 rfl) ?_
  refine lv_iload_n hx hb dL_plan_4 rfl (lv_at hl 2 rfl) ?_
  refine y_calliK (As := [.int v1, .int v2]) (rest := [.int (nI 0), .ref o]) X (kk_kj hK) hC hS hOA hNA hE hX9 yvX8_plan ml_L_48 kX8 rfl (cd_fix (by decide)) hM rfl hl.1 rfl (Nat.le_of_ble_eq_true rfl) ⟨by show fr + 1 ≤ fr + 1; omega, by show 8 + (4 + 11) + lo ≤ lo + 40; omega⟩ ⟨by show 0 + mc ≤ mc; omega, by show 0 + ms ≤ ms; omega⟩ dL_plan_5 (fun hne H1 locs1 q ce hB hk hS hq hv hcl => ?_) (fun h0 H1 locs1 hB hz hk hS => ?_)
  · have hat1 : va_at D vwCl (o, eLng cJ f) H1 := hat.kept (hk o hos (fun z => z.elim ho (fun y => by omega)))
    rcases he with rfl | rfl | rfl
    · exact absurd rfl hne
    · refine vx_catch (name := XTc 1) X.2.2.2.1 [] ⟨0, 10, 13, 19⟩ [⟨0, 10, 17, 13⟩] ht (fun z hz => absurd hz List.not_mem_nil) rfl (by decide) (X.2.2.2.2 _ (cp_link 1 (by decide))) (ex_cast hX9 (by decide)) hq hv hcl ?_
      refine lv_astore (lv' := [(4, .ref q), (0, .ref (L 899 0)), (1, .int v1), (2, .int v2), (3, .ref o)]) hx hb dL_plan_13 hl (by decide) rfl (fun ls hl => ?_)
      refine lv_iconst (v := nI (wk [1, 3] 1)) hx hb dL_plan_15 (by decide) ?_
      exact l_ret X hr hlocks (lb_of hB ho hos (fun _ _ => rfl) hat1 (fun z => absurd z hne)) hS (by show 0 + mc ≤ mc; omega) (by show 0 + ms ≤ ms; omega) dL_plan_16
    · refine vx_catch (name := XTc 3) X.2.2.2.1 [⟨0, 10, 13, 19⟩] ⟨0, 10, 17, 13⟩ [] ht (fun z hz => by
        simp only [List.mem_cons, List.not_mem_nil, or_false] at hz
        rcases hz with rfl
        · exact Or.inr ⟨by decide, XTc 1, X.2.2.2.2 _ (cp_link 1 (by decide)), hN.2.1⟩) rfl (by decide) (X.2.2.2.2 _ (cp_link 3 (by decide))) (ex_cast hX9 (by decide)) hq hv hcl ?_
      refine lv_astore (lv' := [(4, .ref q), (0, .ref (L 899 0)), (1, .int v1), (2, .int v2), (3, .ref o)]) hx hb dL_plan_17 hl (by decide) rfl (fun ls hl => ?_)
      refine lv_iconst (v := nI (wk [1, 3] 3)) hx hb dL_plan_19 (by decide) ?_
      exact l_ret X hr hlocks (lb_of hB ho hos (fun _ _ => rfl) hat1 (fun z => absurd z hne)) hS (by show 0 + mc ≤ mc; omega) (by show 0 + ms ≤ ms; omega) dL_plan_20
  · have hat1 : va_at D vwCl (o, eLng cJ f) H1 := hat.kept (hk o hos (fun z => z.elim ho (fun y => by omega)))
    subst h0
    refine lv_i2l (v := r.toInt64) hx hb dL_plan_8 rfl ?_
    refine pj_last X hK hat1 hS (Or.inr rfl) dL_plan_9 (fun H2 locs2 hat2 hz2 hk2 hS => ?_)
    refine lv_goto (tgt := 21) hx hb dL_plan_10 (by decide) ?_
    refine lv_iconst (v := nI (wk [1, 3] 0)) hx hb dL_plan_21 (by decide) ?_
    exact l_ret X hr hlocks (lb_of hB ho hos hk2 hat2 (fun _ => rfl)) hS (by show 0 + mc ≤ mc; omega) (by show 0 + ms ≤ ms; omega) dL_plan_22
def hh_lacks : List (Nat × Nat × Nat × Nat) := [(0, 9, 12, 21)]
set_option maxRecDepth 100000 in
set_option maxHeartbeats 4000000 in
theorem w_lacks {D : va_G} {cI cZ cO cJ : ClassId} {t0 mi : Nat} (l : Launch) (L : Lay) (σ : St) (ow : Nat → Prop) (o : Nat) (v1 : Int32) {fr lo mc ms e9 : Nat} {r : Int32} {σ' : St} (hM : YI D cI cZ cO t0 mi l yX8_lacks cX8_lacks 5 (some FieldType.int) fr lo mc ms [.ref (L 899 0), .int v1] L σ ow e9 r σ') (he : e9 = 0 ∨ e9 = 2) : LI D cI cZ cO cJ t0 mi l yL_lacks cL_lacks 4 hh_lacks (fr + 1) (lo + 40) mc ms [.ref (L 899 0), .int v1, .ref o] L σ ow o e9 (wk [2] e9) r σ' := by
  refine l_of rfl (Nat.le_of_ble_eq_true rfl) ?_
  intro p e s m args below meth c ls f X ht hK hC hE hX9 ho hos hat hN hr hlocks hl
  have X : CallFix p m c cL_lacks 4 s args TB RL := X
  have hx := X.1
  have hb := X.2.1
  have hl : lv_has ls 4 [(0, .ref (L 899 0)), (1, .int v1), (2, .ref o)] := hl
  have hS : va_S (fun q => AA ow s.heap.size q ∨ q = o) s.heap s.heap [] := va_S.rf
  have hOA : ∀ q, ow q → AA ow s.heap.size q ∨ q = o := fun q h => Or.inl (Or.inl h)
  have hNA : ∀ q, s.heap.size ≤ q → AA ow s.heap.size q ∨ q = o := fun q h => Or.inl (Or.inr h)
  refine lv_aload_n hx hb dL_lacks_0 rfl (lv_at hl 2 rfl) ?_
  refine lv_iconst (v := nI 0) hx hb dL_lacks_1 (by decide) ?_
  refine lv_aload_n hx hb dL_lacks_2 rfl (lv_at hl 0 rfl) ?_
  refine lv_iload_n hx hb dL_lacks_3 rfl (lv_at hl 1 rfl) ?_
  refine y_calliK (As := [.int v1]) (rest := [.int (nI 0), .ref o]) X (kk_kj hK) hC hS hOA hNA hE hX9 yvX8_lacks ml_L_51 kX8 rfl (cd_fix (by decide)) hM rfl hl.1 rfl (Nat.le_of_ble_eq_true rfl) ⟨by show fr + 1 ≤ fr + 1; omega, by show 8 + (5 + 11) + lo ≤ lo + 40; omega⟩ ⟨by show 0 + mc ≤ mc; omega, by show 0 + ms ≤ ms; omega⟩ dL_lacks_4 (fun hne H1 locs1 q ce hB hk hS hq hv hcl => ?_) (fun h0 H1 locs1 hB hz hk hS => ?_)
  · have hat1 : va_at D vwCl (o, eLng cJ f) H1 := hat.kept (hk o hos (fun z => z.elim ho (fun y => by omega)))
    rcases he with rfl | rfl
    · exact absurd rfl hne
    · refine vx_catch (name := XTc 2) X.2.2.2.1 [] ⟨0, 9, 12, 21⟩ [] ht (fun z hz => absurd hz List.not_mem_nil) rfl (by decide) (X.2.2.2.2 _ (cp_link 2 (by decide))) (ex_cast hX9 (by decide)) hq hv hcl ?_
      refine lv_astore_n (lv' := [(3, .ref q), (0, .ref (L 899 0)), (1, .int v1), (2, .ref o)]) hx hb dL_lacks_12 rfl hl (by decide) rfl (fun ls hl => ?_)
      refine lv_iconst (v := nI (wk [2] 2)) hx hb dL_lacks_13 (by decide) ?_
      exact l_ret X hr hlocks (lb_of hB ho hos (fun _ _ => rfl) hat1 (fun z => absurd z hne)) hS (by show 0 + mc ≤ mc; omega) (by show 0 + ms ≤ ms; omega) dL_lacks_14
  · have hat1 : va_at D vwCl (o, eLng cJ f) H1 := hat.kept (hk o hos (fun z => z.elim ho (fun y => by omega)))
    subst h0
    refine lv_i2l (v := r.toInt64) hx hb dL_lacks_7 rfl ?_
    refine pj_last X hK hat1 hS (Or.inr rfl) dL_lacks_8 (fun H2 locs2 hat2 hz2 hk2 hS => ?_)
    refine lv_goto (tgt := 15) hx hb dL_lacks_9 (by decide) ?_
    refine lv_iconst (v := nI (wk [2] 0)) hx hb dL_lacks_15 (by decide) ?_
    exact l_ret X hr hlocks (lb_of hB ho hos hk2 hat2 (fun _ => rfl)) hS (by show 0 + mc ≤ mc; omega) (by show 0 + ms ≤ ms; omega) dL_lacks_16
def hh_idle : List (Nat × Nat × Nat × Nat) := [(0, 9, 12, 21), (0, 9, 15, 13)]
set_option maxRecDepth 100000 in
set_option maxHeartbeats 4000000 in
theorem w_idle {D : va_G} {cI cZ cO cJ : ClassId} {t0 mi : Nat} (l : Launch) (L : Lay) (σ : St) (ow : Nat → Prop) (o : Nat) (v1 : Int32) {fr lo mc ms e9 : Nat} {r : Int32} {σ' : St} (hM : YI D cI cZ cO t0 mi l yX8_idle cX8_idle 2 (some FieldType.int) fr lo mc ms [.ref (L 899 0), .int v1] L σ ow e9 r σ') (he : e9 = 0 ∨ e9 = 2 ∨ e9 = 3) : LI D cI cZ cO cJ t0 mi l yL_idle cL_idle 4 hh_idle (fr + 1) (lo + 40) mc ms [.ref (L 899 0), .int v1, .ref o] L σ ow o e9 (wk [2, 3] e9) r σ' := by
  refine l_of rfl (Nat.le_of_ble_eq_true rfl) ?_
  intro p e s m args below meth c ls f X ht hK hC hE hX9 ho hos hat hN hr hlocks hl
  have X : CallFix p m c cL_idle 4 s args TB RL := X
  have hx := X.1
  have hb := X.2.1
  have hl : lv_has ls 4 [(0, .ref (L 899 0)), (1, .int v1), (2, .ref o)] := hl
  have hS : va_S (fun q => AA ow s.heap.size q ∨ q = o) s.heap s.heap [] := va_S.rf
  have hOA : ∀ q, ow q → AA ow s.heap.size q ∨ q = o := fun q h => Or.inl (Or.inl h)
  have hNA : ∀ q, s.heap.size ≤ q → AA ow s.heap.size q ∨ q = o := fun q h => Or.inl (Or.inr h)
  refine lv_aload_n hx hb dL_idle_0 rfl (lv_at hl 2 rfl) ?_
  refine lv_iconst (v := nI 0) hx hb dL_idle_1 (by decide) ?_
  refine lv_aload_n hx hb dL_idle_2 rfl (lv_at hl 0 rfl) ?_
  refine lv_iload_n hx hb dL_idle_3 rfl (lv_at hl 1 rfl) ?_
  refine y_calliK (As := [.int v1]) (rest := [.int (nI 0), .ref o]) X (kk_kj hK) hC hS hOA hNA hE hX9 yvX8_idle ml_L_54 kX8 rfl (cd_fix (by decide)) hM rfl hl.1 rfl (Nat.le_of_ble_eq_true rfl) ⟨by show fr + 1 ≤ fr + 1; omega, by show 8 + (2 + 11) + lo ≤ lo + 40; omega⟩ ⟨by show 0 + mc ≤ mc; omega, by show 0 + ms ≤ ms; omega⟩ dL_idle_4 (fun hne H1 locs1 q ce hB hk hS hq hv hcl => ?_) (fun h0 H1 locs1 hB hz hk hS => ?_)
  · have hat1 : va_at D vwCl (o, eLng cJ f) H1 := hat.kept (hk o hos (fun z => z.elim ho (fun y => by omega)))
    rcases he with rfl | rfl | rfl
    · exact absurd rfl hne
    · refine vx_catch (name := XTc 2) X.2.2.2.1 [] ⟨0, 9, 12, 21⟩ [⟨0, 9, 15, 13⟩] ht (fun z hz => absurd hz List.not_mem_nil) rfl (by decide) (X.2.2.2.2 _ (cp_link 2 (by decide))) (ex_cast hX9 (by decide)) hq hv hcl ?_
      refine lv_astore_n (lv' := [(3, .ref q), (0, .ref (L 899 0)), (1, .int v1), (2, .ref o)]) hx hb dL_idle_12 rfl hl (by decide) rfl (fun ls hl => ?_)
      refine lv_iconst (v := nI (wk [2, 3] 2)) hx hb dL_idle_13 (by decide) ?_
      exact l_ret X hr hlocks (lb_of hB ho hos (fun _ _ => rfl) hat1 (fun z => absurd z hne)) hS (by show 0 + mc ≤ mc; omega) (by show 0 + ms ≤ ms; omega) dL_idle_14
    · refine vx_catch (name := XTc 3) X.2.2.2.1 [⟨0, 9, 12, 21⟩] ⟨0, 9, 15, 13⟩ [] ht (fun z hz => by
        simp only [List.mem_cons, List.not_mem_nil, or_false] at hz
        rcases hz with rfl
        · exact Or.inr ⟨by decide, XTc 2, X.2.2.2.2 _ (cp_link 2 (by decide)), hN.2.2⟩) rfl (by decide) (X.2.2.2.2 _ (cp_link 3 (by decide))) (ex_cast hX9 (by decide)) hq hv hcl ?_
      refine lv_astore_n (lv' := [(3, .ref q), (0, .ref (L 899 0)), (1, .int v1), (2, .ref o)]) hx hb dL_idle_15 rfl hl (by decide) rfl (fun ls hl => ?_)
      refine lv_iconst (v := nI (wk [2, 3] 3)) hx hb dL_idle_16 (by decide) ?_
      exact l_ret X hr hlocks (lb_of hB ho hos (fun _ _ => rfl) hat1 (fun z => absurd z hne)) hS (by show 0 + mc ≤ mc; omega) (by show 0 + ms ≤ ms; omega) dL_idle_17
  · have hat1 : va_at D vwCl (o, eLng cJ f) H1 := hat.kept (hk o hos (fun z => z.elim ho (fun y => by omega)))
    subst h0
    refine lv_i2l (v := r.toInt64) hx hb dL_idle_7 rfl ?_
    refine pj_last X hK hat1 hS (Or.inr rfl) dL_idle_8 (fun H2 locs2 hat2 hz2 hk2 hS => ?_)
    refine lv_goto (tgt := 18) hx hb dL_idle_9 (by decide) ?_
    refine lv_iconst (v := nI (wk [2, 3] 0)) hx hb dL_idle_18 (by decide) ?_
    exact l_ret X hr hlocks (lb_of hB ho hos hk2 hat2 (fun _ => rfl)) hS (by show 0 + mc ≤ mc; omega) (by show 0 + ms ≤ ms; omega) dL_idle_19
def hh_calibrate : List (Nat × Nat × Nat × Nat) := [(0, 10, 13, 19), (0, 10, 17, 21)]
set_option maxRecDepth 100000 in
set_option maxHeartbeats 4000000 in
theorem w_calibrate {D : va_G} {cI cZ cO cJ : ClassId} {t0 mi : Nat} (l : Launch) (L : Lay) (σ : St) (ow : Nat → Prop) (o : Nat) (v1 v2 : Int32) {fr lo mc ms e9 : Nat} {r : Int32} {σ' : St} (hM : YI D cI cZ cO t0 mi l yX8_calibrate cX8_calibrate 4 (some FieldType.int) fr lo mc ms [.ref (L 899 0), .int v1, .int v2] L σ ow e9 r σ') (he : e9 = 0 ∨ e9 = 1 ∨ e9 = 2) : LI D cI cZ cO cJ t0 mi l yL_calibrate cL_calibrate 5 hh_calibrate (fr + 1) (lo + 40) mc ms [.ref (L 899 0), .int v1, .int v2, .ref o] L σ ow o e9 (wk [1, 2] e9) r σ' := by
  refine l_of rfl (Nat.le_of_ble_eq_true rfl) ?_
  intro p e s m args below meth c ls f X ht hK hC hE hX9 ho hos hat hN hr hlocks hl
  have X : CallFix p m c cL_calibrate 5 s args TB RL := X
  have hx := X.1
  have hb := X.2.1
  have hl : lv_has ls 5 [(0, .ref (L 899 0)), (1, .int v1), (2, .int v2), (3, .ref o)] := hl
  have hS : va_S (fun q => AA ow s.heap.size q ∨ q = o) s.heap s.heap [] := va_S.rf
  have hOA : ∀ q, ow q → AA ow s.heap.size q ∨ q = o := fun q h => Or.inl (Or.inl h)
  have hNA : ∀ q, s.heap.size ≤ q → AA ow s.heap.size q ∨ q = o := fun q h => Or.inl (Or.inr h)
  refine lv_aload_n hx hb dL_calibrate_0 rfl (lv_at hl 3 rfl) ?_
  refine lv_iconst (v := nI 0) hx hb dL_calibrate_1 (by decide) ?_
  refine lv_aload_n hx hb dL_calibrate_2 rfl (lv_at hl 0 rfl) ?_
  refine lv_iload_n hx hb dL_calibrate_3 rfl (lv_at hl 1 rfl) ?_
  refine lv_iload_n hx hb dL_calibrate_4 rfl (lv_at hl 2 rfl) ?_
  refine y_calliK (As := [.int v1, .int v2]) (rest := [.int (nI 0), .ref o]) X (kk_kj hK) hC hS hOA hNA hE hX9 yvX8_calibrate ml_L_57 kX8 rfl (cd_fix (by decide)) hM rfl hl.1 rfl (Nat.le_of_ble_eq_true rfl) ⟨by show fr + 1 ≤ fr + 1; omega, by show 8 + (4 + 11) + lo ≤ lo + 40; omega⟩ ⟨by show 0 + mc ≤ mc; omega, by show 0 + ms ≤ ms; omega⟩ dL_calibrate_5 (fun hne H1 locs1 q ce hB hk hS hq hv hcl => ?_) (fun h0 H1 locs1 hB hz hk hS => ?_)
  · have hat1 : va_at D vwCl (o, eLng cJ f) H1 := hat.kept (hk o hos (fun z => z.elim ho (fun y => by omega)))
    rcases he with rfl | rfl | rfl
    · exact absurd rfl hne
    · refine vx_catch (name := XTc 1) X.2.2.2.1 [] ⟨0, 10, 13, 19⟩ [⟨0, 10, 17, 21⟩] ht (fun z hz => absurd hz List.not_mem_nil) rfl (by decide) (X.2.2.2.2 _ (cp_link 1 (by decide))) (ex_cast hX9 (by decide)) hq hv hcl ?_
      refine lv_astore (lv' := [(4, .ref q), (0, .ref (L 899 0)), (1, .int v1), (2, .int v2), (3, .ref o)]) hx hb dL_calibrate_13 hl (by decide) rfl (fun ls hl => ?_)
      refine lv_iconst (v := nI (wk [1, 2] 1)) hx hb dL_calibrate_15 (by decide) ?_
      exact l_ret X hr hlocks (lb_of hB ho hos (fun _ _ => rfl) hat1 (fun z => absurd z hne)) hS (by show 0 + mc ≤ mc; omega) (by show 0 + ms ≤ ms; omega) dL_calibrate_16
    · refine vx_catch (name := XTc 2) X.2.2.2.1 [⟨0, 10, 13, 19⟩] ⟨0, 10, 17, 21⟩ [] ht (fun z hz => by
        simp only [List.mem_cons, List.not_mem_nil, or_false] at hz
        rcases hz with rfl
        · exact Or.inr ⟨by decide, XTc 1, X.2.2.2.2 _ (cp_link 1 (by decide)), hN.1⟩) rfl (by decide) (X.2.2.2.2 _ (cp_link 2 (by decide))) (ex_cast hX9 (by decide)) hq hv hcl ?_
      refine lv_astore (lv' := [(4, .ref q), (0, .ref (L 899 0)), (1, .int v1), (2, .int v2), (3, .ref o)]) hx hb dL_calibrate_17 hl (by decide) rfl (fun ls hl => ?_)
      refine lv_iconst (v := nI (wk [1, 2] 2)) hx hb dL_calibrate_19 (by decide) ?_
      exact l_ret X hr hlocks (lb_of hB ho hos (fun _ _ => rfl) hat1 (fun z => absurd z hne)) hS (by show 0 + mc ≤ mc; omega) (by show 0 + ms ≤ ms; omega) dL_calibrate_20
  · have hat1 : va_at D vwCl (o, eLng cJ f) H1 := hat.kept (hk o hos (fun z => z.elim ho (fun y => by omega)))
    subst h0
    refine lv_i2l (v := r.toInt64) hx hb dL_calibrate_8 rfl ?_
    refine pj_last X hK hat1 hS (Or.inr rfl) dL_calibrate_9 (fun H2 locs2 hat2 hz2 hk2 hS => ?_)
    refine lv_goto (tgt := 21) hx hb dL_calibrate_10 (by decide) ?_
    refine lv_iconst (v := nI (wk [1, 2] 0)) hx hb dL_calibrate_21 (by decide) ?_
    exact l_ret X hr hlocks (lb_of hB ho hos hk2 hat2 (fun _ => rfl)) hS (by show 0 + mc ≤ mc; omega) (by show 0 + ms ≤ ms; omega) dL_calibrate_22
def hh_drawing : List (Nat × Nat × Nat × Nat) := [(0, 8, 11, 13)]
set_option maxRecDepth 100000 in
set_option maxHeartbeats 4000000 in
theorem w_drawing {D : va_G} {cI cZ cO cJ : ClassId} {t0 mi : Nat} (l : Launch) (L : Lay) (σ : St) (ow : Nat → Prop) (o : Nat) {fr lo mc ms e9 : Nat} {r : Int32} {σ' : St} (hM : YI D cI cZ cO t0 mi l yX8_drawing cX8_drawing 1 (some FieldType.int) fr lo mc ms [.ref (L 899 0)] L σ ow e9 r σ') (he : e9 = 0 ∨ e9 = 3) : LI D cI cZ cO cJ t0 mi l yL_drawing cL_drawing 3 hh_drawing (fr + 1) (lo + 40) mc ms [.ref (L 899 0), .ref o] L σ ow o e9 (wk [3] e9) r σ' := by
  refine l_of rfl (Nat.le_of_ble_eq_true rfl) ?_
  intro p e s m args below meth c ls f X ht hK hC hE hX9 ho hos hat hN hr hlocks hl
  have X : CallFix p m c cL_drawing 3 s args TB RL := X
  have hx := X.1
  have hb := X.2.1
  have hl : lv_has ls 3 [(0, .ref (L 899 0)), (1, .ref o)] := hl
  have hS : va_S (fun q => AA ow s.heap.size q ∨ q = o) s.heap s.heap [] := va_S.rf
  have hOA : ∀ q, ow q → AA ow s.heap.size q ∨ q = o := fun q h => Or.inl (Or.inl h)
  have hNA : ∀ q, s.heap.size ≤ q → AA ow s.heap.size q ∨ q = o := fun q h => Or.inl (Or.inr h)
  refine lv_aload_n hx hb dL_drawing_0 rfl (lv_at hl 1 rfl) ?_
  refine lv_iconst (v := nI 0) hx hb dL_drawing_1 (by decide) ?_
  refine lv_aload_n hx hb dL_drawing_2 rfl (lv_at hl 0 rfl) ?_
  refine y_calliK (As := []) (rest := [.int (nI 0), .ref o]) X (kk_kj hK) hC hS hOA hNA hE hX9 yvX8_drawing ml_L_60 kX8 rfl (cd_fix (by decide)) hM rfl hl.1 rfl (Nat.le_of_ble_eq_true rfl) ⟨by show fr + 1 ≤ fr + 1; omega, by show 8 + (1 + 11) + lo ≤ lo + 40; omega⟩ ⟨by show 0 + mc ≤ mc; omega, by show 0 + ms ≤ ms; omega⟩ dL_drawing_3 (fun hne H1 locs1 q ce hB hk hS hq hv hcl => ?_) (fun h0 H1 locs1 hB hz hk hS => ?_)
  · have hat1 : va_at D vwCl (o, eLng cJ f) H1 := hat.kept (hk o hos (fun z => z.elim ho (fun y => by omega)))
    rcases he with rfl | rfl
    · exact absurd rfl hne
    · refine vx_catch (name := XTc 3) X.2.2.2.1 [] ⟨0, 8, 11, 13⟩ [] ht (fun z hz => absurd hz List.not_mem_nil) rfl (by decide) (X.2.2.2.2 _ (cp_link 3 (by decide))) (ex_cast hX9 (by decide)) hq hv hcl ?_
      refine lv_astore_n (lv' := [(2, .ref q), (0, .ref (L 899 0)), (1, .ref o)]) hx hb dL_drawing_11 rfl hl (by decide) rfl (fun ls hl => ?_)
      refine lv_iconst (v := nI (wk [3] 3)) hx hb dL_drawing_12 (by decide) ?_
      exact l_ret X hr hlocks (lb_of hB ho hos (fun _ _ => rfl) hat1 (fun z => absurd z hne)) hS (by show 0 + mc ≤ mc; omega) (by show 0 + ms ≤ ms; omega) dL_drawing_13
  · have hat1 : va_at D vwCl (o, eLng cJ f) H1 := hat.kept (hk o hos (fun z => z.elim ho (fun y => by omega)))
    subst h0
    refine lv_i2l (v := r.toInt64) hx hb dL_drawing_6 rfl ?_
    refine pj_last X hK hat1 hS (Or.inr rfl) dL_drawing_7 (fun H2 locs2 hat2 hz2 hk2 hS => ?_)
    refine lv_goto (tgt := 14) hx hb dL_drawing_8 (by decide) ?_
    refine lv_iconst (v := nI (wk [3] 0)) hx hb dL_drawing_14 (by decide) ?_
    exact l_ret X hr hlocks (lb_of hB ho hos hk2 hat2 (fun _ => rfl)) hS (by show 0 + mc ≤ mc; omega) (by show 0 + ms ≤ ms; omega) dL_drawing_15
def hh_feature : List (Nat × Nat × Nat × Nat) := [(0, 16, 19, 19), (0, 16, 23, 21), (0, 16, 27, 13)]
set_option maxRecDepth 100000 in
set_option maxHeartbeats 4000000 in
theorem w_feature {D : va_G} {cI cZ cO cJ : ClassId} {t0 mi : Nat} (l : Launch) (L : Lay) (σ : St) (ow : Nat → Prop) (o : Nat) (v1 v2 v3 v4 v5 : Int32) {fr lo mc ms e9 : Nat} {r : Int32} {σ' : St} (hM : YI D cI cZ cO t0 mi l yX8_feature cX8_feature 8 (some FieldType.int) fr lo mc ms [.ref (L 899 0), .int v1, .int v2, .int v3, .int v4, .int v5] L σ ow e9 r σ') (he : e9 = 0 ∨ e9 = 1 ∨ e9 = 2 ∨ e9 = 3) : LI D cI cZ cO cJ t0 mi l yL_feature cL_feature 8 hh_feature (fr + 1) (lo + 40) mc ms [.ref (L 899 0), .int v1, .int v2, .int v3, .int v4, .int v5, .ref o] L σ ow o e9 (wk [1, 2, 3] e9) r σ' := by
  refine l_of rfl (Nat.le_of_ble_eq_true rfl) ?_
  intro p e s m args below meth c ls f X ht hK hC hE hX9 ho hos hat hN hr hlocks hl
  have X : CallFix p m c cL_feature 8 s args TB RL := X
  have hx := X.1
  have hb := X.2.1
  have hl : lv_has ls 8 [(0, .ref (L 899 0)), (1, .int v1), (2, .int v2), (3, .int v3), (4, .int v4), (5, .int v5), (6, .ref o)] := hl
  have hS : va_S (fun q => AA ow s.heap.size q ∨ q = o) s.heap s.heap [] := va_S.rf
  have hOA : ∀ q, ow q → AA ow s.heap.size q ∨ q = o := fun q h => Or.inl (Or.inl h)
  have hNA : ∀ q, s.heap.size ≤ q → AA ow s.heap.size q ∨ q = o := fun q h => Or.inl (Or.inr h)
  refine lv_aload hx hb dL_feature_0 (lv_at hl 6 rfl) ?_
  refine lv_iconst (v := nI 0) hx hb dL_feature_2 (by decide) ?_
  refine lv_aload_n hx hb dL_feature_3 rfl (lv_at hl 0 rfl) ?_
  refine lv_iload_n hx hb dL_feature_4 rfl (lv_at hl 1 rfl) ?_
  refine lv_iload_n hx hb dL_feature_5 rfl (lv_at hl 2 rfl) ?_
  refine lv_iload_n hx hb dL_feature_6 rfl (lv_at hl 3 rfl) ?_
  refine lv_iload hx hb dL_feature_7 (lv_at hl 4 rfl) ?_
  refine lv_iload hx hb dL_feature_9 (lv_at hl 5 rfl) ?_
  refine y_calliK (As := [.int v1, .int v2, .int v3, .int v4, .int v5]) (rest := [.int (nI 0), .ref o]) X (kk_kj hK) hC hS hOA hNA hE hX9 yvX8_feature ml_L_63 kX8 rfl (cd_fix (by decide)) hM rfl hl.1 rfl (Nat.le_of_ble_eq_true rfl) ⟨by show fr + 1 ≤ fr + 1; omega, by show 8 + (8 + 11) + lo ≤ lo + 40; omega⟩ ⟨by show 0 + mc ≤ mc; omega, by show 0 + ms ≤ ms; omega⟩ dL_feature_11 (fun hne H1 locs1 q ce hB hk hS hq hv hcl => ?_) (fun h0 H1 locs1 hB hz hk hS => ?_)
  · have hat1 : va_at D vwCl (o, eLng cJ f) H1 := hat.kept (hk o hos (fun z => z.elim ho (fun y => by omega)))
    rcases he with rfl | rfl | rfl | rfl
    · exact absurd rfl hne
    · refine vx_catch (name := XTc 1) X.2.2.2.1 [] ⟨0, 16, 19, 19⟩ [⟨0, 16, 23, 21⟩, ⟨0, 16, 27, 13⟩] ht (fun z hz => absurd hz List.not_mem_nil) rfl (by decide) (X.2.2.2.2 _ (cp_link 1 (by decide))) (ex_cast hX9 (by decide)) hq hv hcl ?_
      refine lv_astore (lv' := [(7, .ref q), (0, .ref (L 899 0)), (1, .int v1), (2, .int v2), (3, .int v3), (4, .int v4), (5, .int v5), (6, .ref o)]) hx hb dL_feature_19 hl (by decide) rfl (fun ls hl => ?_)
      refine lv_iconst (v := nI (wk [1, 2, 3] 1)) hx hb dL_feature_21 (by decide) ?_
      exact l_ret X hr hlocks (lb_of hB ho hos (fun _ _ => rfl) hat1 (fun z => absurd z hne)) hS (by show 0 + mc ≤ mc; omega) (by show 0 + ms ≤ ms; omega) dL_feature_22
    · refine vx_catch (name := XTc 2) X.2.2.2.1 [⟨0, 16, 19, 19⟩] ⟨0, 16, 23, 21⟩ [⟨0, 16, 27, 13⟩] ht (fun z hz => by
        simp only [List.mem_cons, List.not_mem_nil, or_false] at hz
        rcases hz with rfl
        · exact Or.inr ⟨by decide, XTc 1, X.2.2.2.2 _ (cp_link 1 (by decide)), hN.1⟩) rfl (by decide) (X.2.2.2.2 _ (cp_link 2 (by decide))) (ex_cast hX9 (by decide)) hq hv hcl ?_
      refine lv_astore (lv' := [(7, .ref q), (0, .ref (L 899 0)), (1, .int v1), (2, .int v2), (3, .int v3), (4, .int v4), (5, .int v5), (6, .ref o)]) hx hb dL_feature_23 hl (by decide) rfl (fun ls hl => ?_)
      refine lv_iconst (v := nI (wk [1, 2, 3] 2)) hx hb dL_feature_25 (by decide) ?_
      exact l_ret X hr hlocks (lb_of hB ho hos (fun _ _ => rfl) hat1 (fun z => absurd z hne)) hS (by show 0 + mc ≤ mc; omega) (by show 0 + ms ≤ ms; omega) dL_feature_26
    · refine vx_catch (name := XTc 3) X.2.2.2.1 [⟨0, 16, 19, 19⟩, ⟨0, 16, 23, 21⟩] ⟨0, 16, 27, 13⟩ [] ht (fun z hz => by
        simp only [List.mem_cons, List.not_mem_nil, or_false] at hz
        rcases hz with rfl | rfl
        · exact Or.inr ⟨by decide, XTc 1, X.2.2.2.2 _ (cp_link 1 (by decide)), hN.2.1⟩
        · exact Or.inr ⟨by decide, XTc 2, X.2.2.2.2 _ (cp_link 2 (by decide)), hN.2.2⟩) rfl (by decide) (X.2.2.2.2 _ (cp_link 3 (by decide))) (ex_cast hX9 (by decide)) hq hv hcl ?_
      refine lv_astore (lv' := [(7, .ref q), (0, .ref (L 899 0)), (1, .int v1), (2, .int v2), (3, .int v3), (4, .int v4), (5, .int v5), (6, .ref o)]) hx hb dL_feature_27 hl (by decide) rfl (fun ls hl => ?_)
      refine lv_iconst (v := nI (wk [1, 2, 3] 3)) hx hb dL_feature_29 (by decide) ?_
      exact l_ret X hr hlocks (lb_of hB ho hos (fun _ _ => rfl) hat1 (fun z => absurd z hne)) hS (by show 0 + mc ≤ mc; omega) (by show 0 + ms ≤ ms; omega) dL_feature_30
  · have hat1 : va_at D vwCl (o, eLng cJ f) H1 := hat.kept (hk o hos (fun z => z.elim ho (fun y => by omega)))
    subst h0
    refine lv_i2l (v := r.toInt64) hx hb dL_feature_14 rfl ?_
    refine pj_last X hK hat1 hS (Or.inr rfl) dL_feature_15 (fun H2 locs2 hat2 hz2 hk2 hS => ?_)
    refine lv_goto (tgt := 31) hx hb dL_feature_16 (by decide) ?_
    refine lv_iconst (v := nI (wk [1, 2, 3] 0)) hx hb dL_feature_31 (by decide) ?_
    exact l_ret X hr hlocks (lb_of hB ho hos hk2 hat2 (fun _ => rfl)) hS (by show 0 + mc ≤ mc; omega) (by show 0 + ms ≤ ms; omega) dL_feature_32
def hh_allow : List (Nat × Nat × Nat × Nat) := [(0, 14, 17, 19), (0, 14, 21, 21)]
set_option maxRecDepth 100000 in
set_option maxHeartbeats 4000000 in
theorem w_allow {D : va_G} {cI cZ cO cJ : ClassId} {t0 mi : Nat} (l : Launch) (L : Lay) (σ : St) (ow : Nat → Prop) (o : Nat) (v1 v2 v3 v4 : Int32) {fr lo mc ms e9 : Nat} {r : Int32} {σ' : St} (hM : YI D cI cZ cO t0 mi l yX8_allow cX8_allow 6 (some FieldType.int) fr lo mc ms [.ref (L 899 0), .int v1, .int v2, .int v3, .int v4] L σ ow e9 r σ') (he : e9 = 0 ∨ e9 = 1 ∨ e9 = 2) : LI D cI cZ cO cJ t0 mi l yL_allow cL_allow 7 hh_allow (fr + 1) (lo + 40) mc ms [.ref (L 899 0), .int v1, .int v2, .int v3, .int v4, .ref o] L σ ow o e9 (wk [1, 2] e9) r σ' := by
  refine l_of rfl (Nat.le_of_ble_eq_true rfl) ?_
  intro p e s m args below meth c ls f X ht hK hC hE hX9 ho hos hat hN hr hlocks hl
  have X : CallFix p m c cL_allow 7 s args TB RL := X
  have hx := X.1
  have hb := X.2.1
  have hl : lv_has ls 7 [(0, .ref (L 899 0)), (1, .int v1), (2, .int v2), (3, .int v3), (4, .int v4), (5, .ref o)] := hl
  have hS : va_S (fun q => AA ow s.heap.size q ∨ q = o) s.heap s.heap [] := va_S.rf
  have hOA : ∀ q, ow q → AA ow s.heap.size q ∨ q = o := fun q h => Or.inl (Or.inl h)
  have hNA : ∀ q, s.heap.size ≤ q → AA ow s.heap.size q ∨ q = o := fun q h => Or.inl (Or.inr h)
  refine lv_aload hx hb dL_allow_0 (lv_at hl 5 rfl) ?_
  refine lv_iconst (v := nI 0) hx hb dL_allow_2 (by decide) ?_
  refine lv_aload_n hx hb dL_allow_3 rfl (lv_at hl 0 rfl) ?_
  refine lv_iload_n hx hb dL_allow_4 rfl (lv_at hl 1 rfl) ?_
  refine lv_iload_n hx hb dL_allow_5 rfl (lv_at hl 2 rfl) ?_
  refine lv_iload_n hx hb dL_allow_6 rfl (lv_at hl 3 rfl) ?_
  refine lv_iload hx hb dL_allow_7 (lv_at hl 4 rfl) ?_
  refine y_calliK (As := [.int v1, .int v2, .int v3, .int v4]) (rest := [.int (nI 0), .ref o]) X (kk_kj hK) hC hS hOA hNA hE hX9 yvX8_allow ml_L_67 kX8 rfl (cd_fix (by decide)) hM rfl hl.1 rfl (Nat.le_of_ble_eq_true rfl) ⟨by show fr + 1 ≤ fr + 1; omega, by show 8 + (6 + 11) + lo ≤ lo + 40; omega⟩ ⟨by show 0 + mc ≤ mc; omega, by show 0 + ms ≤ ms; omega⟩ dL_allow_9 (fun hne H1 locs1 q ce hB hk hS hq hv hcl => ?_) (fun h0 H1 locs1 hB hz hk hS => ?_)
  · have hat1 : va_at D vwCl (o, eLng cJ f) H1 := hat.kept (hk o hos (fun z => z.elim ho (fun y => by omega)))
    rcases he with rfl | rfl | rfl
    · exact absurd rfl hne
    · refine vx_catch (name := XTc 1) X.2.2.2.1 [] ⟨0, 14, 17, 19⟩ [⟨0, 14, 21, 21⟩] ht (fun z hz => absurd hz List.not_mem_nil) rfl (by decide) (X.2.2.2.2 _ (cp_link 1 (by decide))) (ex_cast hX9 (by decide)) hq hv hcl ?_
      refine lv_astore (lv' := [(6, .ref q), (0, .ref (L 899 0)), (1, .int v1), (2, .int v2), (3, .int v3), (4, .int v4), (5, .ref o)]) hx hb dL_allow_17 hl (by decide) rfl (fun ls hl => ?_)
      refine lv_iconst (v := nI (wk [1, 2] 1)) hx hb dL_allow_19 (by decide) ?_
      exact l_ret X hr hlocks (lb_of hB ho hos (fun _ _ => rfl) hat1 (fun z => absurd z hne)) hS (by show 0 + mc ≤ mc; omega) (by show 0 + ms ≤ ms; omega) dL_allow_20
    · refine vx_catch (name := XTc 2) X.2.2.2.1 [⟨0, 14, 17, 19⟩] ⟨0, 14, 21, 21⟩ [] ht (fun z hz => by
        simp only [List.mem_cons, List.not_mem_nil, or_false] at hz
        rcases hz with rfl
        · exact Or.inr ⟨by decide, XTc 1, X.2.2.2.2 _ (cp_link 1 (by decide)), hN.1⟩) rfl (by decide) (X.2.2.2.2 _ (cp_link 2 (by decide))) (ex_cast hX9 (by decide)) hq hv hcl ?_
      refine lv_astore (lv' := [(6, .ref q), (0, .ref (L 899 0)), (1, .int v1), (2, .int v2), (3, .int v3), (4, .int v4), (5, .ref o)]) hx hb dL_allow_21 hl (by decide) rfl (fun ls hl => ?_)
      refine lv_iconst (v := nI (wk [1, 2] 2)) hx hb dL_allow_23 (by decide) ?_
      exact l_ret X hr hlocks (lb_of hB ho hos (fun _ _ => rfl) hat1 (fun z => absurd z hne)) hS (by show 0 + mc ≤ mc; omega) (by show 0 + ms ≤ ms; omega) dL_allow_24
  · have hat1 : va_at D vwCl (o, eLng cJ f) H1 := hat.kept (hk o hos (fun z => z.elim ho (fun y => by omega)))
    subst h0
    refine lv_i2l (v := r.toInt64) hx hb dL_allow_12 rfl ?_
    refine pj_last X hK hat1 hS (Or.inr rfl) dL_allow_13 (fun H2 locs2 hat2 hz2 hk2 hS => ?_)
    refine lv_goto (tgt := 25) hx hb dL_allow_14 (by decide) ?_
    refine lv_iconst (v := nI (wk [1, 2] 0)) hx hb dL_allow_25 (by decide) ?_
    exact l_ret X hr hlocks (lb_of hB ho hos hk2 hat2 (fun _ => rfl)) hS (by show 0 + mc ≤ mc; omega) (by show 0 + ms ≤ ms; omega) dL_allow_26
def hh_judge : List (Nat × Nat × Nat × Nat) := [(0, 12, 15, 19), (0, 12, 19, 13)]
set_option maxRecDepth 100000 in
set_option maxHeartbeats 4000000 in
theorem w_judge {D : va_G} {cI cZ cO cJ : ClassId} {t0 mi : Nat} (l : Launch) (L : Lay) (σ : St) (ow : Nat → Prop) (o : Nat) (v1 v2 v3 : Int32) {fr lo mc ms e9 : Nat} {r : Int32} {σ' : St} (hM : YI D cI cZ cO t0 mi l yX8_judge cX8_judge 11 (some FieldType.int) fr lo mc ms [.ref (L 899 0), .int v1, .int v2, .int v3] L σ ow e9 r σ') (he : e9 = 0 ∨ e9 = 1 ∨ e9 = 3) : LI D cI cZ cO cJ t0 mi l yL_judge cL_judge 6 hh_judge (fr + 1) (lo + 40) mc ms [.ref (L 899 0), .int v1, .int v2, .int v3, .ref o] L σ ow o e9 (wk [1, 3] e9) r σ' := by
  refine l_of rfl (Nat.le_of_ble_eq_true rfl) ?_
  intro p e s m args below meth c ls f X ht hK hC hE hX9 ho hos hat hN hr hlocks hl
  have X : CallFix p m c cL_judge 6 s args TB RL := X
  have hx := X.1
  have hb := X.2.1
  have hl : lv_has ls 6 [(0, .ref (L 899 0)), (1, .int v1), (2, .int v2), (3, .int v3), (4, .ref o)] := hl
  have hS : va_S (fun q => AA ow s.heap.size q ∨ q = o) s.heap s.heap [] := va_S.rf
  have hOA : ∀ q, ow q → AA ow s.heap.size q ∨ q = o := fun q h => Or.inl (Or.inl h)
  have hNA : ∀ q, s.heap.size ≤ q → AA ow s.heap.size q ∨ q = o := fun q h => Or.inl (Or.inr h)
  refine lv_aload hx hb dL_judge_0 (lv_at hl 4 rfl) ?_
  refine lv_iconst (v := nI 0) hx hb dL_judge_2 (by decide) ?_
  refine lv_aload_n hx hb dL_judge_3 rfl (lv_at hl 0 rfl) ?_
  refine lv_iload_n hx hb dL_judge_4 rfl (lv_at hl 1 rfl) ?_
  refine lv_iload_n hx hb dL_judge_5 rfl (lv_at hl 2 rfl) ?_
  refine lv_iload_n hx hb dL_judge_6 rfl (lv_at hl 3 rfl) ?_
  refine y_calliK (As := [.int v1, .int v2, .int v3]) (rest := [.int (nI 0), .ref o]) X (kk_kj hK) hC hS hOA hNA hE hX9 yvX8_judge ml_L_70 kX8 rfl (cd_fix (by decide)) hM rfl hl.1 rfl (Nat.le_of_ble_eq_true rfl) ⟨by show fr + 1 ≤ fr + 1; omega, by show 8 + (11 + 11) + lo ≤ lo + 40; omega⟩ ⟨by show 0 + mc ≤ mc; omega, by show 0 + ms ≤ ms; omega⟩ dL_judge_7 (fun hne H1 locs1 q ce hB hk hS hq hv hcl => ?_) (fun h0 H1 locs1 hB hz hk hS => ?_)
  · have hat1 : va_at D vwCl (o, eLng cJ f) H1 := hat.kept (hk o hos (fun z => z.elim ho (fun y => by omega)))
    rcases he with rfl | rfl | rfl
    · exact absurd rfl hne
    · refine vx_catch (name := XTc 1) X.2.2.2.1 [] ⟨0, 12, 15, 19⟩ [⟨0, 12, 19, 13⟩] ht (fun z hz => absurd hz List.not_mem_nil) rfl (by decide) (X.2.2.2.2 _ (cp_link 1 (by decide))) (ex_cast hX9 (by decide)) hq hv hcl ?_
      refine lv_astore (lv' := [(5, .ref q), (0, .ref (L 899 0)), (1, .int v1), (2, .int v2), (3, .int v3), (4, .ref o)]) hx hb dL_judge_15 hl (by decide) rfl (fun ls hl => ?_)
      refine lv_iconst (v := nI (wk [1, 3] 1)) hx hb dL_judge_17 (by decide) ?_
      exact l_ret X hr hlocks (lb_of hB ho hos (fun _ _ => rfl) hat1 (fun z => absurd z hne)) hS (by show 0 + mc ≤ mc; omega) (by show 0 + ms ≤ ms; omega) dL_judge_18
    · refine vx_catch (name := XTc 3) X.2.2.2.1 [⟨0, 12, 15, 19⟩] ⟨0, 12, 19, 13⟩ [] ht (fun z hz => by
        simp only [List.mem_cons, List.not_mem_nil, or_false] at hz
        rcases hz with rfl
        · exact Or.inr ⟨by decide, XTc 1, X.2.2.2.2 _ (cp_link 1 (by decide)), hN.2.1⟩) rfl (by decide) (X.2.2.2.2 _ (cp_link 3 (by decide))) (ex_cast hX9 (by decide)) hq hv hcl ?_
      refine lv_astore (lv' := [(5, .ref q), (0, .ref (L 899 0)), (1, .int v1), (2, .int v2), (3, .int v3), (4, .ref o)]) hx hb dL_judge_19 hl (by decide) rfl (fun ls hl => ?_)
      refine lv_iconst (v := nI (wk [1, 3] 3)) hx hb dL_judge_21 (by decide) ?_
      exact l_ret X hr hlocks (lb_of hB ho hos (fun _ _ => rfl) hat1 (fun z => absurd z hne)) hS (by show 0 + mc ≤ mc; omega) (by show 0 + ms ≤ ms; omega) dL_judge_22
  · have hat1 : va_at D vwCl (o, eLng cJ f) H1 := hat.kept (hk o hos (fun z => z.elim ho (fun y => by omega)))
    subst h0
    refine lv_i2l (v := r.toInt64) hx hb dL_judge_10 rfl ?_
    refine pj_last X hK hat1 hS (Or.inr rfl) dL_judge_11 (fun H2 locs2 hat2 hz2 hk2 hS => ?_)
    refine lv_goto (tgt := 23) hx hb dL_judge_12 (by decide) ?_
    refine lv_iconst (v := nI (wk [1, 3] 0)) hx hb dL_judge_23 (by decide) ?_
    exact l_ret X hr hlocks (lb_of hB ho hos hk2 hat2 (fun _ => rfl)) hS (by show 0 + mc ≤ mc; omega) (by show 0 + ms ≤ ms; omega) dL_judge_24
def hh_correct : List (Nat × Nat × Nat × Nat) := [(0, 9, 12, 19)]
set_option maxRecDepth 100000 in
set_option maxHeartbeats 4000000 in
theorem w_correct {D : va_G} {cI cZ cO cJ : ClassId} {t0 mi : Nat} (l : Launch) (L : Lay) (σ : St) (ow : Nat → Prop) (o : Nat) (v1 : Int32) {fr lo mc ms e9 : Nat} {r : Int32} {σ' : St} (hM : YI D cI cZ cO t0 mi l yX8_correct cX8_correct 2 (some FieldType.int) fr lo mc ms [.ref (L 899 0), .int v1] L σ ow e9 r σ') (he : e9 = 0 ∨ e9 = 1) : LI D cI cZ cO cJ t0 mi l yL_correct cL_correct 4 hh_correct (fr + 1) (lo + 40) mc ms [.ref (L 899 0), .int v1, .ref o] L σ ow o e9 (wk [1] e9) r σ' := by
  refine l_of rfl (Nat.le_of_ble_eq_true rfl) ?_
  intro p e s m args below meth c ls f X ht hK hC hE hX9 ho hos hat hN hr hlocks hl
  have X : CallFix p m c cL_correct 4 s args TB RL := X
  have hx := X.1
  have hb := X.2.1
  have hl : lv_has ls 4 [(0, .ref (L 899 0)), (1, .int v1), (2, .ref o)] := hl
  have hS : va_S (fun q => AA ow s.heap.size q ∨ q = o) s.heap s.heap [] := va_S.rf
  have hOA : ∀ q, ow q → AA ow s.heap.size q ∨ q = o := fun q h => Or.inl (Or.inl h)
  have hNA : ∀ q, s.heap.size ≤ q → AA ow s.heap.size q ∨ q = o := fun q h => Or.inl (Or.inr h)
  refine lv_aload_n hx hb dL_correct_0 rfl (lv_at hl 2 rfl) ?_
  refine lv_iconst (v := nI 0) hx hb dL_correct_1 (by decide) ?_
  refine lv_aload_n hx hb dL_correct_2 rfl (lv_at hl 0 rfl) ?_
  refine lv_iload_n hx hb dL_correct_3 rfl (lv_at hl 1 rfl) ?_
  refine y_calliK (As := [.int v1]) (rest := [.int (nI 0), .ref o]) X (kk_kj hK) hC hS hOA hNA hE hX9 yvX8_correct ml_L_73 kX8 rfl (cd_fix (by decide)) hM rfl hl.1 rfl (Nat.le_of_ble_eq_true rfl) ⟨by show fr + 1 ≤ fr + 1; omega, by show 8 + (2 + 11) + lo ≤ lo + 40; omega⟩ ⟨by show 0 + mc ≤ mc; omega, by show 0 + ms ≤ ms; omega⟩ dL_correct_4 (fun hne H1 locs1 q ce hB hk hS hq hv hcl => ?_) (fun h0 H1 locs1 hB hz hk hS => ?_)
  · have hat1 : va_at D vwCl (o, eLng cJ f) H1 := hat.kept (hk o hos (fun z => z.elim ho (fun y => by omega)))
    rcases he with rfl | rfl
    · exact absurd rfl hne
    · refine vx_catch (name := XTc 1) X.2.2.2.1 [] ⟨0, 9, 12, 19⟩ [] ht (fun z hz => absurd hz List.not_mem_nil) rfl (by decide) (X.2.2.2.2 _ (cp_link 1 (by decide))) (ex_cast hX9 (by decide)) hq hv hcl ?_
      refine lv_astore_n (lv' := [(3, .ref q), (0, .ref (L 899 0)), (1, .int v1), (2, .ref o)]) hx hb dL_correct_12 rfl hl (by decide) rfl (fun ls hl => ?_)
      refine lv_iconst (v := nI (wk [1] 1)) hx hb dL_correct_13 (by decide) ?_
      exact l_ret X hr hlocks (lb_of hB ho hos (fun _ _ => rfl) hat1 (fun z => absurd z hne)) hS (by show 0 + mc ≤ mc; omega) (by show 0 + ms ≤ ms; omega) dL_correct_14
  · have hat1 : va_at D vwCl (o, eLng cJ f) H1 := hat.kept (hk o hos (fun z => z.elim ho (fun y => by omega)))
    subst h0
    refine lv_i2l (v := r.toInt64) hx hb dL_correct_7 rfl ?_
    refine pj_last X hK hat1 hS (Or.inr rfl) dL_correct_8 (fun H2 locs2 hat2 hz2 hk2 hS => ?_)
    refine lv_goto (tgt := 15) hx hb dL_correct_9 (by decide) ?_
    refine lv_iconst (v := nI (wk [1] 0)) hx hb dL_correct_15 (by decide) ?_
    exact l_ret X hr hlocks (lb_of hB ho hos hk2 hat2 (fun _ => rfl)) hS (by show 0 + mc ≤ mc; omega) (by show 0 + ms ≤ ms; omega) dL_correct_16
def hh_ofTool : List (Nat × Nat × Nat × Nat) := [(0, 10, 13, 19), (0, 10, 17, 21)]
set_option maxRecDepth 100000 in
set_option maxHeartbeats 4000000 in
theorem w_ofTool {D : va_G} {cI cZ cO cJ : ClassId} {t0 mi : Nat} (l : Launch) (L : Lay) (σ : St) (ow : Nat → Prop) (o : Nat) (v1 v2 : Int32) {fr lo mc ms e9 : Nat} {r : Int32} {σ' : St} (hM : YI D cI cZ cO t0 mi l yX8_ofTool cX8_ofTool 4 (some FieldType.int) fr lo mc ms [.ref (L 899 0), .int v1, .int v2] L σ ow e9 r σ') (he : e9 = 0 ∨ e9 = 1 ∨ e9 = 2) : LI D cI cZ cO cJ t0 mi l yL_ofTool cL_ofTool 5 hh_ofTool (fr + 1) (lo + 40) mc ms [.ref (L 899 0), .int v1, .int v2, .ref o] L σ ow o e9 (wk [1, 2] e9) r σ' := by
  refine l_of rfl (Nat.le_of_ble_eq_true rfl) ?_
  intro p e s m args below meth c ls f X ht hK hC hE hX9 ho hos hat hN hr hlocks hl
  have X : CallFix p m c cL_ofTool 5 s args TB RL := X
  have hx := X.1
  have hb := X.2.1
  have hl : lv_has ls 5 [(0, .ref (L 899 0)), (1, .int v1), (2, .int v2), (3, .ref o)] := hl
  have hS : va_S (fun q => AA ow s.heap.size q ∨ q = o) s.heap s.heap [] := va_S.rf
  have hOA : ∀ q, ow q → AA ow s.heap.size q ∨ q = o := fun q h => Or.inl (Or.inl h)
  have hNA : ∀ q, s.heap.size ≤ q → AA ow s.heap.size q ∨ q = o := fun q h => Or.inl (Or.inr h)
  refine lv_aload_n hx hb dL_ofTool_0 rfl (lv_at hl 3 rfl) ?_
  refine lv_iconst (v := nI 0) hx hb dL_ofTool_1 (by decide) ?_
  refine lv_aload_n hx hb dL_ofTool_2 rfl (lv_at hl 0 rfl) ?_
  refine lv_iload_n hx hb dL_ofTool_3 rfl (lv_at hl 1 rfl) ?_
  refine lv_iload_n hx hb dL_ofTool_4 rfl (lv_at hl 2 rfl) ?_
  refine y_calliK (As := [.int v1, .int v2]) (rest := [.int (nI 0), .ref o]) X (kk_kj hK) hC hS hOA hNA hE hX9 yvX8_ofTool ml_L_76 kX8 rfl (cd_fix (by decide)) hM rfl hl.1 rfl (Nat.le_of_ble_eq_true rfl) ⟨by show fr + 1 ≤ fr + 1; omega, by show 8 + (4 + 11) + lo ≤ lo + 40; omega⟩ ⟨by show 0 + mc ≤ mc; omega, by show 0 + ms ≤ ms; omega⟩ dL_ofTool_5 (fun hne H1 locs1 q ce hB hk hS hq hv hcl => ?_) (fun h0 H1 locs1 hB hz hk hS => ?_)
  · have hat1 : va_at D vwCl (o, eLng cJ f) H1 := hat.kept (hk o hos (fun z => z.elim ho (fun y => by omega)))
    rcases he with rfl | rfl | rfl
    · exact absurd rfl hne
    · refine vx_catch (name := XTc 1) X.2.2.2.1 [] ⟨0, 10, 13, 19⟩ [⟨0, 10, 17, 21⟩] ht (fun z hz => absurd hz List.not_mem_nil) rfl (by decide) (X.2.2.2.2 _ (cp_link 1 (by decide))) (ex_cast hX9 (by decide)) hq hv hcl ?_
      refine lv_astore (lv' := [(4, .ref q), (0, .ref (L 899 0)), (1, .int v1), (2, .int v2), (3, .ref o)]) hx hb dL_ofTool_13 hl (by decide) rfl (fun ls hl => ?_)
      refine lv_iconst (v := nI (wk [1, 2] 1)) hx hb dL_ofTool_15 (by decide) ?_
      exact l_ret X hr hlocks (lb_of hB ho hos (fun _ _ => rfl) hat1 (fun z => absurd z hne)) hS (by show 0 + mc ≤ mc; omega) (by show 0 + ms ≤ ms; omega) dL_ofTool_16
    · refine vx_catch (name := XTc 2) X.2.2.2.1 [⟨0, 10, 13, 19⟩] ⟨0, 10, 17, 21⟩ [] ht (fun z hz => by
        simp only [List.mem_cons, List.not_mem_nil, or_false] at hz
        rcases hz with rfl
        · exact Or.inr ⟨by decide, XTc 1, X.2.2.2.2 _ (cp_link 1 (by decide)), hN.1⟩) rfl (by decide) (X.2.2.2.2 _ (cp_link 2 (by decide))) (ex_cast hX9 (by decide)) hq hv hcl ?_
      refine lv_astore (lv' := [(4, .ref q), (0, .ref (L 899 0)), (1, .int v1), (2, .int v2), (3, .ref o)]) hx hb dL_ofTool_17 hl (by decide) rfl (fun ls hl => ?_)
      refine lv_iconst (v := nI (wk [1, 2] 2)) hx hb dL_ofTool_19 (by decide) ?_
      exact l_ret X hr hlocks (lb_of hB ho hos (fun _ _ => rfl) hat1 (fun z => absurd z hne)) hS (by show 0 + mc ≤ mc; omega) (by show 0 + ms ≤ ms; omega) dL_ofTool_20
  · have hat1 : va_at D vwCl (o, eLng cJ f) H1 := hat.kept (hk o hos (fun z => z.elim ho (fun y => by omega)))
    subst h0
    refine lv_i2l (v := r.toInt64) hx hb dL_ofTool_8 rfl ?_
    refine pj_last X hK hat1 hS (Or.inr rfl) dL_ofTool_9 (fun H2 locs2 hat2 hz2 hk2 hS => ?_)
    refine lv_goto (tgt := 21) hx hb dL_ofTool_10 (by decide) ?_
    refine lv_iconst (v := nI (wk [1, 2] 0)) hx hb dL_ofTool_21 (by decide) ?_
    exact l_ret X hr hlocks (lb_of hB ho hos hk2 hat2 (fun _ => rfl)) hS (by show 0 + mc ≤ mc; omega) (by show 0 + ms ≤ ms; omega) dL_ofTool_22
def hh_ofCell : List (Nat × Nat × Nat × Nat) := [(0, 14, 17, 19), (0, 14, 21, 21)]
set_option maxRecDepth 100000 in
set_option maxHeartbeats 4000000 in
theorem w_ofCell {D : va_G} {cI cZ cO cJ : ClassId} {t0 mi : Nat} (l : Launch) (L : Lay) (σ : St) (ow : Nat → Prop) (o : Nat) (v1 v2 v3 v4 : Int32) {fr lo mc ms e9 : Nat} {r : Int32} {σ' : St} (hM : YI D cI cZ cO t0 mi l yX8_ofCell cX8_ofCell 7 (some FieldType.int) fr lo mc ms [.ref (L 899 0), .int v1, .int v2, .int v3, .int v4] L σ ow e9 r σ') (he : e9 = 0 ∨ e9 = 1 ∨ e9 = 2) : LI D cI cZ cO cJ t0 mi l yL_ofCell cL_ofCell 7 hh_ofCell (fr + 1) (lo + 40) mc ms [.ref (L 899 0), .int v1, .int v2, .int v3, .int v4, .ref o] L σ ow o e9 (wk [1, 2] e9) r σ' := by
  refine l_of rfl (Nat.le_of_ble_eq_true rfl) ?_
  intro p e s m args below meth c ls f X ht hK hC hE hX9 ho hos hat hN hr hlocks hl
  have X : CallFix p m c cL_ofCell 7 s args TB RL := X
  have hx := X.1
  have hb := X.2.1
  have hl : lv_has ls 7 [(0, .ref (L 899 0)), (1, .int v1), (2, .int v2), (3, .int v3), (4, .int v4), (5, .ref o)] := hl
  have hS : va_S (fun q => AA ow s.heap.size q ∨ q = o) s.heap s.heap [] := va_S.rf
  have hOA : ∀ q, ow q → AA ow s.heap.size q ∨ q = o := fun q h => Or.inl (Or.inl h)
  have hNA : ∀ q, s.heap.size ≤ q → AA ow s.heap.size q ∨ q = o := fun q h => Or.inl (Or.inr h)
  refine lv_aload hx hb dL_ofCell_0 (lv_at hl 5 rfl) ?_
  refine lv_iconst (v := nI 0) hx hb dL_ofCell_2 (by decide) ?_
  refine lv_aload_n hx hb dL_ofCell_3 rfl (lv_at hl 0 rfl) ?_
  refine lv_iload_n hx hb dL_ofCell_4 rfl (lv_at hl 1 rfl) ?_
  refine lv_iload_n hx hb dL_ofCell_5 rfl (lv_at hl 2 rfl) ?_
  refine lv_iload_n hx hb dL_ofCell_6 rfl (lv_at hl 3 rfl) ?_
  refine lv_iload hx hb dL_ofCell_7 (lv_at hl 4 rfl) ?_
  refine y_calliK (As := [.int v1, .int v2, .int v3, .int v4]) (rest := [.int (nI 0), .ref o]) X (kk_kj hK) hC hS hOA hNA hE hX9 yvX8_ofCell ml_L_79 kX8 rfl (cd_fix (by decide)) hM rfl hl.1 rfl (Nat.le_of_ble_eq_true rfl) ⟨by show fr + 1 ≤ fr + 1; omega, by show 8 + (7 + 11) + lo ≤ lo + 40; omega⟩ ⟨by show 0 + mc ≤ mc; omega, by show 0 + ms ≤ ms; omega⟩ dL_ofCell_9 (fun hne H1 locs1 q ce hB hk hS hq hv hcl => ?_) (fun h0 H1 locs1 hB hz hk hS => ?_)
  · have hat1 : va_at D vwCl (o, eLng cJ f) H1 := hat.kept (hk o hos (fun z => z.elim ho (fun y => by omega)))
    rcases he with rfl | rfl | rfl
    · exact absurd rfl hne
    · refine vx_catch (name := XTc 1) X.2.2.2.1 [] ⟨0, 14, 17, 19⟩ [⟨0, 14, 21, 21⟩] ht (fun z hz => absurd hz List.not_mem_nil) rfl (by decide) (X.2.2.2.2 _ (cp_link 1 (by decide))) (ex_cast hX9 (by decide)) hq hv hcl ?_
      refine lv_astore (lv' := [(6, .ref q), (0, .ref (L 899 0)), (1, .int v1), (2, .int v2), (3, .int v3), (4, .int v4), (5, .ref o)]) hx hb dL_ofCell_17 hl (by decide) rfl (fun ls hl => ?_)
      refine lv_iconst (v := nI (wk [1, 2] 1)) hx hb dL_ofCell_19 (by decide) ?_
      exact l_ret X hr hlocks (lb_of hB ho hos (fun _ _ => rfl) hat1 (fun z => absurd z hne)) hS (by show 0 + mc ≤ mc; omega) (by show 0 + ms ≤ ms; omega) dL_ofCell_20
    · refine vx_catch (name := XTc 2) X.2.2.2.1 [⟨0, 14, 17, 19⟩] ⟨0, 14, 21, 21⟩ [] ht (fun z hz => by
        simp only [List.mem_cons, List.not_mem_nil, or_false] at hz
        rcases hz with rfl
        · exact Or.inr ⟨by decide, XTc 1, X.2.2.2.2 _ (cp_link 1 (by decide)), hN.1⟩) rfl (by decide) (X.2.2.2.2 _ (cp_link 2 (by decide))) (ex_cast hX9 (by decide)) hq hv hcl ?_
      refine lv_astore (lv' := [(6, .ref q), (0, .ref (L 899 0)), (1, .int v1), (2, .int v2), (3, .int v3), (4, .int v4), (5, .ref o)]) hx hb dL_ofCell_21 hl (by decide) rfl (fun ls hl => ?_)
      refine lv_iconst (v := nI (wk [1, 2] 2)) hx hb dL_ofCell_23 (by decide) ?_
      exact l_ret X hr hlocks (lb_of hB ho hos (fun _ _ => rfl) hat1 (fun z => absurd z hne)) hS (by show 0 + mc ≤ mc; omega) (by show 0 + ms ≤ ms; omega) dL_ofCell_24
  · have hat1 : va_at D vwCl (o, eLng cJ f) H1 := hat.kept (hk o hos (fun z => z.elim ho (fun y => by omega)))
    subst h0
    refine lv_i2l (v := r.toInt64) hx hb dL_ofCell_12 rfl ?_
    refine pj_last X hK hat1 hS (Or.inr rfl) dL_ofCell_13 (fun H2 locs2 hat2 hz2 hk2 hS => ?_)
    refine lv_goto (tgt := 25) hx hb dL_ofCell_14 (by decide) ?_
    refine lv_iconst (v := nI (wk [1, 2] 0)) hx hb dL_ofCell_25 (by decide) ?_
    exact l_ret X hr hlocks (lb_of hB ho hos hk2 hat2 (fun _ => rfl)) hS (by show 0 + mc ≤ mc; omega) (by show 0 + ms ≤ ms; omega) dL_ofCell_26
def hh_ofPallet : List (Nat × Nat × Nat × Nat) := [(0, 10, 13, 19), (0, 10, 17, 21)]
set_option maxRecDepth 100000 in
set_option maxHeartbeats 4000000 in
theorem w_ofPallet {D : va_G} {cI cZ cO cJ : ClassId} {t0 mi : Nat} (l : Launch) (L : Lay) (σ : St) (ow : Nat → Prop) (o : Nat) (v1 v2 : Int32) {fr lo mc ms e9 : Nat} {r : Int32} {σ' : St} (hM : YI D cI cZ cO t0 mi l yX8_ofPallet cX8_ofPallet 4 (some FieldType.int) fr lo mc ms [.ref (L 899 0), .int v1, .int v2] L σ ow e9 r σ') (he : e9 = 0 ∨ e9 = 1 ∨ e9 = 2) : LI D cI cZ cO cJ t0 mi l yL_ofPallet cL_ofPallet 5 hh_ofPallet (fr + 1) (lo + 40) mc ms [.ref (L 899 0), .int v1, .int v2, .ref o] L σ ow o e9 (wk [1, 2] e9) r σ' := by
  refine l_of rfl (Nat.le_of_ble_eq_true rfl) ?_
  intro p e s m args below meth c ls f X ht hK hC hE hX9 ho hos hat hN hr hlocks hl
  have X : CallFix p m c cL_ofPallet 5 s args TB RL := X
  have hx := X.1
  have hb := X.2.1
  have hl : lv_has ls 5 [(0, .ref (L 899 0)), (1, .int v1), (2, .int v2), (3, .ref o)] := hl
  have hS : va_S (fun q => AA ow s.heap.size q ∨ q = o) s.heap s.heap [] := va_S.rf
  have hOA : ∀ q, ow q → AA ow s.heap.size q ∨ q = o := fun q h => Or.inl (Or.inl h)
  have hNA : ∀ q, s.heap.size ≤ q → AA ow s.heap.size q ∨ q = o := fun q h => Or.inl (Or.inr h)
  refine lv_aload_n hx hb dL_ofPallet_0 rfl (lv_at hl 3 rfl) ?_
  refine lv_iconst (v := nI 0) hx hb dL_ofPallet_1 (by decide) ?_
  refine lv_aload_n hx hb dL_ofPallet_2 rfl (lv_at hl 0 rfl) ?_
  refine lv_iload_n hx hb dL_ofPallet_3 rfl (lv_at hl 1 rfl) ?_
  refine lv_iload_n hx hb dL_ofPallet_4 rfl (lv_at hl 2 rfl) ?_
  refine y_calliK (As := [.int v1, .int v2]) (rest := [.int (nI 0), .ref o]) X (kk_kj hK) hC hS hOA hNA hE hX9 yvX8_ofPallet ml_L_82 kX8 rfl (cd_fix (by decide)) hM rfl hl.1 rfl (Nat.le_of_ble_eq_true rfl) ⟨by show fr + 1 ≤ fr + 1; omega, by show 8 + (4 + 11) + lo ≤ lo + 40; omega⟩ ⟨by show 0 + mc ≤ mc; omega, by show 0 + ms ≤ ms; omega⟩ dL_ofPallet_5 (fun hne H1 locs1 q ce hB hk hS hq hv hcl => ?_) (fun h0 H1 locs1 hB hz hk hS => ?_)
  · have hat1 : va_at D vwCl (o, eLng cJ f) H1 := hat.kept (hk o hos (fun z => z.elim ho (fun y => by omega)))
    rcases he with rfl | rfl | rfl
    · exact absurd rfl hne
    · refine vx_catch (name := XTc 1) X.2.2.2.1 [] ⟨0, 10, 13, 19⟩ [⟨0, 10, 17, 21⟩] ht (fun z hz => absurd hz List.not_mem_nil) rfl (by decide) (X.2.2.2.2 _ (cp_link 1 (by decide))) (ex_cast hX9 (by decide)) hq hv hcl ?_
      refine lv_astore (lv' := [(4, .ref q), (0, .ref (L 899 0)), (1, .int v1), (2, .int v2), (3, .ref o)]) hx hb dL_ofPallet_13 hl (by decide) rfl (fun ls hl => ?_)
      refine lv_iconst (v := nI (wk [1, 2] 1)) hx hb dL_ofPallet_15 (by decide) ?_
      exact l_ret X hr hlocks (lb_of hB ho hos (fun _ _ => rfl) hat1 (fun z => absurd z hne)) hS (by show 0 + mc ≤ mc; omega) (by show 0 + ms ≤ ms; omega) dL_ofPallet_16
    · refine vx_catch (name := XTc 2) X.2.2.2.1 [⟨0, 10, 13, 19⟩] ⟨0, 10, 17, 21⟩ [] ht (fun z hz => by
        simp only [List.mem_cons, List.not_mem_nil, or_false] at hz
        rcases hz with rfl
        · exact Or.inr ⟨by decide, XTc 1, X.2.2.2.2 _ (cp_link 1 (by decide)), hN.1⟩) rfl (by decide) (X.2.2.2.2 _ (cp_link 2 (by decide))) (ex_cast hX9 (by decide)) hq hv hcl ?_
      refine lv_astore (lv' := [(4, .ref q), (0, .ref (L 899 0)), (1, .int v1), (2, .int v2), (3, .ref o)]) hx hb dL_ofPallet_17 hl (by decide) rfl (fun ls hl => ?_)
      refine lv_iconst (v := nI (wk [1, 2] 2)) hx hb dL_ofPallet_19 (by decide) ?_
      exact l_ret X hr hlocks (lb_of hB ho hos (fun _ _ => rfl) hat1 (fun z => absurd z hne)) hS (by show 0 + mc ≤ mc; omega) (by show 0 + ms ≤ ms; omega) dL_ofPallet_20
  · have hat1 : va_at D vwCl (o, eLng cJ f) H1 := hat.kept (hk o hos (fun z => z.elim ho (fun y => by omega)))
    subst h0
    refine lv_i2l (v := r.toInt64) hx hb dL_ofPallet_8 rfl ?_
    refine pj_last X hK hat1 hS (Or.inr rfl) dL_ofPallet_9 (fun H2 locs2 hat2 hz2 hk2 hS => ?_)
    refine lv_goto (tgt := 21) hx hb dL_ofPallet_10 (by decide) ?_
    refine lv_iconst (v := nI (wk [1, 2] 0)) hx hb dL_ofPallet_21 (by decide) ?_
    exact l_ret X hr hlocks (lb_of hB ho hos hk2 hat2 (fun _ => rfl)) hS (by show 0 + mc ≤ mc; omega) (by show 0 + ms ≤ ms; omega) dL_ofPallet_22
def hh_ofPaper : List (Nat × Nat × Nat × Nat) := [(0, 10, 13, 19), (0, 10, 17, 21)]
set_option maxRecDepth 100000 in
set_option maxHeartbeats 4000000 in
theorem w_ofPaper {D : va_G} {cI cZ cO cJ : ClassId} {t0 mi : Nat} (l : Launch) (L : Lay) (σ : St) (ow : Nat → Prop) (o : Nat) (v1 v2 : Int32) {fr lo mc ms e9 : Nat} {r : Int32} {σ' : St} (hM : YI D cI cZ cO t0 mi l yX8_ofPaper cX8_ofPaper 4 (some FieldType.int) fr lo mc ms [.ref (L 899 0), .int v1, .int v2] L σ ow e9 r σ') (he : e9 = 0 ∨ e9 = 1 ∨ e9 = 2) : LI D cI cZ cO cJ t0 mi l yL_ofPaper cL_ofPaper 5 hh_ofPaper (fr + 1) (lo + 40) mc ms [.ref (L 899 0), .int v1, .int v2, .ref o] L σ ow o e9 (wk [1, 2] e9) r σ' := by
  refine l_of rfl (Nat.le_of_ble_eq_true rfl) ?_
  intro p e s m args below meth c ls f X ht hK hC hE hX9 ho hos hat hN hr hlocks hl
  have X : CallFix p m c cL_ofPaper 5 s args TB RL := X
  have hx := X.1
  have hb := X.2.1
  have hl : lv_has ls 5 [(0, .ref (L 899 0)), (1, .int v1), (2, .int v2), (3, .ref o)] := hl
  have hS : va_S (fun q => AA ow s.heap.size q ∨ q = o) s.heap s.heap [] := va_S.rf
  have hOA : ∀ q, ow q → AA ow s.heap.size q ∨ q = o := fun q h => Or.inl (Or.inl h)
  have hNA : ∀ q, s.heap.size ≤ q → AA ow s.heap.size q ∨ q = o := fun q h => Or.inl (Or.inr h)
  refine lv_aload_n hx hb dL_ofPaper_0 rfl (lv_at hl 3 rfl) ?_
  refine lv_iconst (v := nI 0) hx hb dL_ofPaper_1 (by decide) ?_
  refine lv_aload_n hx hb dL_ofPaper_2 rfl (lv_at hl 0 rfl) ?_
  refine lv_iload_n hx hb dL_ofPaper_3 rfl (lv_at hl 1 rfl) ?_
  refine lv_iload_n hx hb dL_ofPaper_4 rfl (lv_at hl 2 rfl) ?_
  refine y_calliK (As := [.int v1, .int v2]) (rest := [.int (nI 0), .ref o]) X (kk_kj hK) hC hS hOA hNA hE hX9 yvX8_ofPaper ml_L_85 kX8 rfl (cd_fix (by decide)) hM rfl hl.1 rfl (Nat.le_of_ble_eq_true rfl) ⟨by show fr + 1 ≤ fr + 1; omega, by show 8 + (4 + 11) + lo ≤ lo + 40; omega⟩ ⟨by show 0 + mc ≤ mc; omega, by show 0 + ms ≤ ms; omega⟩ dL_ofPaper_5 (fun hne H1 locs1 q ce hB hk hS hq hv hcl => ?_) (fun h0 H1 locs1 hB hz hk hS => ?_)
  · have hat1 : va_at D vwCl (o, eLng cJ f) H1 := hat.kept (hk o hos (fun z => z.elim ho (fun y => by omega)))
    rcases he with rfl | rfl | rfl
    · exact absurd rfl hne
    · refine vx_catch (name := XTc 1) X.2.2.2.1 [] ⟨0, 10, 13, 19⟩ [⟨0, 10, 17, 21⟩] ht (fun z hz => absurd hz List.not_mem_nil) rfl (by decide) (X.2.2.2.2 _ (cp_link 1 (by decide))) (ex_cast hX9 (by decide)) hq hv hcl ?_
      refine lv_astore (lv' := [(4, .ref q), (0, .ref (L 899 0)), (1, .int v1), (2, .int v2), (3, .ref o)]) hx hb dL_ofPaper_13 hl (by decide) rfl (fun ls hl => ?_)
      refine lv_iconst (v := nI (wk [1, 2] 1)) hx hb dL_ofPaper_15 (by decide) ?_
      exact l_ret X hr hlocks (lb_of hB ho hos (fun _ _ => rfl) hat1 (fun z => absurd z hne)) hS (by show 0 + mc ≤ mc; omega) (by show 0 + ms ≤ ms; omega) dL_ofPaper_16
    · refine vx_catch (name := XTc 2) X.2.2.2.1 [⟨0, 10, 13, 19⟩] ⟨0, 10, 17, 21⟩ [] ht (fun z hz => by
        simp only [List.mem_cons, List.not_mem_nil, or_false] at hz
        rcases hz with rfl
        · exact Or.inr ⟨by decide, XTc 1, X.2.2.2.2 _ (cp_link 1 (by decide)), hN.1⟩) rfl (by decide) (X.2.2.2.2 _ (cp_link 2 (by decide))) (ex_cast hX9 (by decide)) hq hv hcl ?_
      refine lv_astore (lv' := [(4, .ref q), (0, .ref (L 899 0)), (1, .int v1), (2, .int v2), (3, .ref o)]) hx hb dL_ofPaper_17 hl (by decide) rfl (fun ls hl => ?_)
      refine lv_iconst (v := nI (wk [1, 2] 2)) hx hb dL_ofPaper_19 (by decide) ?_
      exact l_ret X hr hlocks (lb_of hB ho hos (fun _ _ => rfl) hat1 (fun z => absurd z hne)) hS (by show 0 + mc ≤ mc; omega) (by show 0 + ms ≤ ms; omega) dL_ofPaper_20
  · have hat1 : va_at D vwCl (o, eLng cJ f) H1 := hat.kept (hk o hos (fun z => z.elim ho (fun y => by omega)))
    subst h0
    refine lv_i2l (v := r.toInt64) hx hb dL_ofPaper_8 rfl ?_
    refine pj_last X hK hat1 hS (Or.inr rfl) dL_ofPaper_9 (fun H2 locs2 hat2 hz2 hk2 hS => ?_)
    refine lv_goto (tgt := 21) hx hb dL_ofPaper_10 (by decide) ?_
    refine lv_iconst (v := nI (wk [1, 2] 0)) hx hb dL_ofPaper_21 (by decide) ?_
    exact l_ret X hr hlocks (lb_of hB ho hos hk2 hat2 (fun _ => rfl)) hS (by show 0 + mc ≤ mc; omega) (by show 0 + ms ≤ ms; omega) dL_ofPaper_22
def hh_judgeAnew : List (Nat × Nat × Nat × Nat) := [(0, 9, 12, 19)]
set_option maxRecDepth 100000 in
set_option maxHeartbeats 4000000 in
theorem w_judgeAnew {D : va_G} {cI cZ cO cJ : ClassId} {t0 mi : Nat} (l : Launch) (L : Lay) (σ : St) (ow : Nat → Prop) (o : Nat) (v1 : Int32) {fr lo mc ms e9 : Nat} {r : Int32} {σ' : St} (hM : YI D cI cZ cO t0 mi l yX8_judgeAnew cX8_judgeAnew 2 (some FieldType.int) fr lo mc ms [.ref (L 899 0), .int v1] L σ ow e9 r σ') (he : e9 = 0 ∨ e9 = 1) : LI D cI cZ cO cJ t0 mi l yL_judgeAnew cL_judgeAnew 4 hh_judgeAnew (fr + 1) (lo + 40) mc ms [.ref (L 899 0), .int v1, .ref o] L σ ow o e9 (wk [1] e9) r σ' := by
  refine l_of rfl (Nat.le_of_ble_eq_true rfl) ?_
  intro p e s m args below meth c ls f X ht hK hC hE hX9 ho hos hat hN hr hlocks hl
  have X : CallFix p m c cL_judgeAnew 4 s args TB RL := X
  have hx := X.1
  have hb := X.2.1
  have hl : lv_has ls 4 [(0, .ref (L 899 0)), (1, .int v1), (2, .ref o)] := hl
  have hS : va_S (fun q => AA ow s.heap.size q ∨ q = o) s.heap s.heap [] := va_S.rf
  have hOA : ∀ q, ow q → AA ow s.heap.size q ∨ q = o := fun q h => Or.inl (Or.inl h)
  have hNA : ∀ q, s.heap.size ≤ q → AA ow s.heap.size q ∨ q = o := fun q h => Or.inl (Or.inr h)
  refine lv_aload_n hx hb dL_judgeAnew_0 rfl (lv_at hl 2 rfl) ?_
  refine lv_iconst (v := nI 0) hx hb dL_judgeAnew_1 (by decide) ?_
  refine lv_aload_n hx hb dL_judgeAnew_2 rfl (lv_at hl 0 rfl) ?_
  refine lv_iload_n hx hb dL_judgeAnew_3 rfl (lv_at hl 1 rfl) ?_
  refine y_calliK (As := [.int v1]) (rest := [.int (nI 0), .ref o]) X (kk_kj hK) hC hS hOA hNA hE hX9 yvX8_judgeAnew ml_L_88 kX8 rfl (cd_fix (by decide)) hM rfl hl.1 rfl (Nat.le_of_ble_eq_true rfl) ⟨by show fr + 1 ≤ fr + 1; omega, by show 8 + (2 + 11) + lo ≤ lo + 40; omega⟩ ⟨by show 0 + mc ≤ mc; omega, by show 0 + ms ≤ ms; omega⟩ dL_judgeAnew_4 (fun hne H1 locs1 q ce hB hk hS hq hv hcl => ?_) (fun h0 H1 locs1 hB hz hk hS => ?_)
  · have hat1 : va_at D vwCl (o, eLng cJ f) H1 := hat.kept (hk o hos (fun z => z.elim ho (fun y => by omega)))
    rcases he with rfl | rfl
    · exact absurd rfl hne
    · refine vx_catch (name := XTc 1) X.2.2.2.1 [] ⟨0, 9, 12, 19⟩ [] ht (fun z hz => absurd hz List.not_mem_nil) rfl (by decide) (X.2.2.2.2 _ (cp_link 1 (by decide))) (ex_cast hX9 (by decide)) hq hv hcl ?_
      refine lv_astore_n (lv' := [(3, .ref q), (0, .ref (L 899 0)), (1, .int v1), (2, .ref o)]) hx hb dL_judgeAnew_12 rfl hl (by decide) rfl (fun ls hl => ?_)
      refine lv_iconst (v := nI (wk [1] 1)) hx hb dL_judgeAnew_13 (by decide) ?_
      exact l_ret X hr hlocks (lb_of hB ho hos (fun _ _ => rfl) hat1 (fun z => absurd z hne)) hS (by show 0 + mc ≤ mc; omega) (by show 0 + ms ≤ ms; omega) dL_judgeAnew_14
  · have hat1 : va_at D vwCl (o, eLng cJ f) H1 := hat.kept (hk o hos (fun z => z.elim ho (fun y => by omega)))
    subst h0
    refine lv_i2l (v := r.toInt64) hx hb dL_judgeAnew_7 rfl ?_
    refine pj_last X hK hat1 hS (Or.inr rfl) dL_judgeAnew_8 (fun H2 locs2 hat2 hz2 hk2 hS => ?_)
    refine lv_goto (tgt := 15) hx hb dL_judgeAnew_9 (by decide) ?_
    refine lv_iconst (v := nI (wk [1] 0)) hx hb dL_judgeAnew_15 (by decide) ?_
    exact l_ret X hr hlocks (lb_of hB ho hos hk2 hat2 (fun _ => rfl)) hS (by show 0 + mc ≤ mc; omega) (by show 0 + ms ≤ ms; omega) dL_judgeAnew_16
