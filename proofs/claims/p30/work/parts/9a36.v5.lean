def VE9 (D : va_G) (cI cZ cO : ClassId) (t0 z0 x9 : Nat) (L : Lay) (κ σ : St) (H : Heap) : Prop := ∃ σ2, RS σ σ2 ∧ Vd D cI cZ cO t0 z0 x9 L κ σ2 H
theorem e9_v {X ρ : St} : (h_e9 X ρ).2.2.2 904 0 = X.2.2.2 904 0 := by
  show up2 ρ.2.2.2 904 0 (X.2.2.2 904 0) 904 0 = _
  exact up2_s
theorem e9_all {X ρ : St} (h : RS ρ X) : (∀ F k, vdom F k → (h_e9 X ρ).2.2.1 F k = X.2.2.1 F k) ∧ ∀ F k, vdom F k → (h_e9 X ρ).2.2.2 F k = X.2.2.2 F k := by
  refine ⟨fun F k z => (h.1 F k z).symm, fun F k z => ?_⟩
  by_cases e4 : F = 904
  · have hk : k = 0 := by rcases z with ⟨h1, h2⟩ | ⟨h1, h2, h3⟩ <;> omega
    rw [e4, hk]
    exact e9_v
  · rw [h.2.1 F k z e4]
    exact congrFun (xS9_o e4) k
theorem up2_w {L : Lay} {a F k F' k' : Nat} (h : vdom F k) (h2 : ¬ vdom F' k') : up2 L F' k' a F k = L F k := up2_n (fun z => h2 (by rw [← z.1, ← z.2]; exact h))
theorem nv {F k : Nat} (h : (F = 900 ∧ 2 ≤ k) ∨ (900 < F ∧ 1 ≤ k)) : ¬ vdom F k := fun z => by rcases z with ⟨a, b⟩ | ⟨a, b, c⟩ <;> omega
set_option maxHeartbeats 1000000 in
theorem v_L_foreseen {D : va_G} {cI cZ cO : ClassId} {t0 mi z0 x9 : Nat} {L : Lay} (l : Launch) (κ σ : St) (hN : JN σ) (hNI : NI 2 3 1 1 1 (fcp σ)) : VI D cI cZ cO t0 mi z0 l yL_foreseen cL_foreseen 7 (some FieldType.int) 6 174 5 216 [.ref (L 900 0), .ref (L 900 1), .ref (L 901 0), .ref (L 902 0), .ref (L 903 0), .ref (L 904 0), .ref (L 905 0)] (Vd D cI cZ cO t0 z0 x9 L κ σ) (VE9 D cI cZ cO t0 z0 x9 L κ σ) (nI (h_night 2 3 1 1 1 (fcp σ)).1) := by
  refine vi_of rfl (Nat.le_of_ble_eq_true rfl) ?_
  intro p e s m args below meth c ls X hK hE hX hP hz hr hlocks hl
  have X : CallFix p m c cL_foreseen 7 s args TB RL := X
  have hx := X.1
  have hb := X.2.1
  have hS : va_S (vA z0) s.heap s.heap [] := va_S.rf
  have hW : Vd D cI cZ cO t0 z0 x9 L κ σ s.heap := hP
  have hl : lv_has ls 7 [(0, .ref (L 900 0)), (1, .ref (L 900 1)), (2, .ref (L 901 0)), (3, .ref (L 902 0)), (4, .ref (L 903 0)), (5, .ref (L 904 0)), (6, .ref (L 905 0))] := hl
  have r1 : RS σ (cpj 0 2 48 σ) := cpj_RS (by decide)
  have r2 : RS σ (cpj 1 3 48 (cpj 0 2 48 σ)) := r1.tr (cpj_RS (by decide))
  have r3 : RS σ (kpi 902 0 1 36 (cpj 1 3 48 (cpj 0 2 48 σ))) := r2.tr (kpi_RS (by decide))
  have r4 : RS σ (kpi 903 0 1 37 (kpi 902 0 1 36 (cpj 1 3 48 (cpj 0 2 48 σ)))) := r3.tr (kpi_RS (by decide))
  have d1 : LD (dA vdom 900 2) := vd_LD.a (by decide)
  have d2 : LD (dA (dA vdom 900 2) 900 3) := d1.a (by decide)
  have d3 : LD (dA (dA (dA vdom 900 2) 900 3) 902 1) := d2.a (by decide)
  have d4 : LD (dA (dA (dA (dA vdom 900 2) 900 3) 902 1) 903 1) := d3.a (by decide)
  refine lv_aload_n hx hb dL_foreseen_0 rfl (lv_at hl 0 rfl) ?_
  refine x_cp X hK (VX.of hW) hS (kr := 0) 2 vd_LD (vd_0 (by decide)) (nd_9 (by decide)) rfl hl.1 (Nat.le_of_ble_eq_true rfl) ⟨Nat.le_of_ble_eq_true rfl, Nat.le_of_ble_eq_true rfl⟩ ⟨Nat.le_of_ble_eq_true rfl, Nat.le_of_ble_eq_true rfl⟩ dL_foreseen_1 (fun a1 H locs hV hS => ?_)
  refine lv_aload_n hx hb dL_foreseen_4 rfl (lv_at hl 1 rfl) ?_
  refine x_cp X hK hV hS (kr := 1) 3 d1 (Or.inl (vd_0 (by decide))) (fun z => z.elim (nv (Or.inl ⟨rfl, by decide⟩)) (fun y => absurd y.2 (by decide))) (up2_w (vd_0 (by decide)) (nv (Or.inl ⟨rfl, by decide⟩))).symm hl.1 (Nat.le_of_ble_eq_true rfl) ⟨Nat.le_of_ble_eq_true rfl, Nat.le_of_ble_eq_true rfl⟩ ⟨Nat.le_of_ble_eq_true rfl, Nat.le_of_ble_eq_true rfl⟩ dL_foreseen_5 (fun a2 H locs hV hS => ?_)
  refine lv_aload_n hx hb dL_foreseen_8 rfl (lv_at hl 2 rfl) ?_
  refine lv_aload_n hx hb dL_foreseen_9 rfl (lv_at hl 3 rfl) ?_
  refine x_kp X hK hV hS 902 0 1 36 fa_902 (by decide) ((congrFun (r2.1 902 0 (vd_1 (by decide))) 0).trans hN.1) (by decide) d2 (Or.inl (Or.inl (vd_1 (by decide)))) (fun z => z.elim (fun w => w.elim (nv (Or.inr ⟨by decide, by decide⟩)) (fun y => absurd y.1 (by decide))) (fun y => absurd y.1 (by decide))) ((up2_n (fun z => absurd z.1 (by decide))).trans (up2_n (fun z => absurd z.1 (by decide)))).symm hl.1 (Nat.le_of_ble_eq_true rfl) ⟨Nat.le_of_ble_eq_true rfl, Nat.le_of_ble_eq_true rfl⟩ ⟨Nat.le_of_ble_eq_true rfl, Nat.le_of_ble_eq_true rfl⟩ dL_foreseen_10 (fun a3 H locs hV hS => ?_)
  refine lv_aload hx hb dL_foreseen_13 (lv_at hl 4 rfl) ?_
  refine x_kp X hK hV hS 903 0 1 37 fa_903 (by decide) ((congrFun (r3.1 903 0 (vd_1 (by decide))) 0).trans hN.2.1) (by decide) d3 (Or.inl (Or.inl (Or.inl (vd_1 (by decide))))) (fun z => z.elim (fun w => w.elim (fun v => v.elim (nv (Or.inr ⟨by decide, by decide⟩)) (fun y => absurd y.1 (by decide))) (fun y => absurd y.1 (by decide))) (fun y => absurd y.1 (by decide))) ((up2_n (fun z => absurd z.1 (by decide))).trans ((up2_n (fun z => absurd z.1 (by decide))).trans (up2_n (fun z => absurd z.1 (by decide))))).symm hl.1 (Nat.le_of_ble_eq_true rfl) ⟨Nat.le_of_ble_eq_true rfl, Nat.le_of_ble_eq_true rfl⟩ ⟨Nat.le_of_ble_eq_true rfl, Nat.le_of_ble_eq_true rfl⟩ dL_foreseen_15 (fun a4 H locs hV hS => ?_)
  refine lv_aload hx hb dL_foreseen_18 (lv_at hl 5 rfl) ?_
  refine lv_aload hx hb dL_foreseen_20 (lv_at hl 6 rfl) ?_
  refine x_kp X hK hV hS 905 0 1 11 fa_905 (by decide) ((congrFun (r4.1 905 0 (vd_1 (by decide))) 0).trans hN.2.2) (by decide) d4 (Or.inl (Or.inl (Or.inl (Or.inl (vd_1 (by decide)))))) (fun z => z.elim (fun w => w.elim (fun v => v.elim (fun u => u.elim (nv (Or.inr ⟨by decide, by decide⟩)) (fun y => absurd y.1 (by decide))) (fun y => absurd y.1 (by decide))) (fun y => absurd y.1 (by decide))) (fun y => absurd y.1 (by decide))) ((up2_n (fun z => absurd z.1 (by decide))).trans ((up2_n (fun z => absurd z.1 (by decide))).trans ((up2_n (fun z => absurd z.1 (by decide))).trans (up2_n (fun z => absurd z.1 (by decide)))))).symm hl.1 (Nat.le_of_ble_eq_true rfl) ⟨Nat.le_of_ble_eq_true rfl, Nat.le_of_ble_eq_true rfl⟩ ⟨Nat.le_of_ble_eq_true rfl, Nat.le_of_ble_eq_true rfl⟩ dL_foreseen_22 (fun a5 H locs hV hS => ?_)
  have hd : ∀ z ∈ ([(900, 2), (900, 3), (901, 0), (902, 1), (903, 1), (904, 0), (905, 1)] : List (Nat × Nat)), (dA (dA (dA (dA (dA vdom 900 2) 900 3) 902 1) 903 1) 905 1) z.1 z.2 := by
    intro z hz
    simp only [List.mem_cons, List.not_mem_nil, or_false] at hz
    rcases hz with h9 | h9 | h9 | h9 | h9 | h9 | h9 <;> subst h9
    · exact Or.inl (Or.inl (Or.inl (Or.inl (Or.inr ⟨rfl, rfl⟩))))
    · exact Or.inl (Or.inl (Or.inl (Or.inr ⟨rfl, rfl⟩)))
    · exact Or.inl (Or.inl (Or.inl (Or.inl (Or.inl (vd_1 (by decide))))))
    · exact Or.inl (Or.inl (Or.inr ⟨rfl, rfl⟩))
    · exact Or.inl (Or.inr ⟨rfl, rfl⟩)
    · exact Or.inl (Or.inl (Or.inl (Or.inl (Or.inl (vd_1 (by decide))))))
    · exact Or.inr ⟨rfl, rfl⟩
  have hLL : ∀ F k, vdom F k → L F k = up2 (up2 (up2 (up2 (up2 L 900 2 a1) 900 3 a2) 902 1 a3) 903 1 a4) 905 1 a5 F k := fun F k z => by
    rw [up2_w z (nv (Or.inr ⟨by decide, by decide⟩)), up2_w z (nv (Or.inr ⟨by decide, by decide⟩)), up2_w z (nv (Or.inr ⟨by decide, by decide⟩)), up2_w z (nv (Or.inl ⟨rfl, by decide⟩)), up2_w z (nv (Or.inl ⟨rfl, by decide⟩))]
  have hst : ([.ref a5, .ref (L 904 0), .ref a4, .ref a3, .ref (L 901 0), .ref a2, .ref a1] : List Value) = [.ref (up2 (up2 (up2 (up2 (up2 L 900 2 a1) 900 3 a2) 902 1 a3) 903 1 a4) 905 1 a5 900 2), .ref (up2 (up2 (up2 (up2 (up2 L 900 2 a1) 900 3 a2) 902 1 a3) 903 1 a4) 905 1 a5 900 3), .ref (up2 (up2 (up2 (up2 (up2 L 900 2 a1) 900 3 a2) 902 1 a3) 903 1 a4) 905 1 a5 901 0), .ref (up2 (up2 (up2 (up2 (up2 L 900 2 a1) 900 3 a2) 902 1 a3) 903 1 a4) 905 1 a5 902 1), .ref (up2 (up2 (up2 (up2 (up2 L 900 2 a1) 900 3 a2) 902 1 a3) 903 1 a4) 905 1 a5 903 1), .ref (up2 (up2 (up2 (up2 (up2 L 900 2 a1) 900 3 a2) 902 1 a3) 903 1 a4) 905 1 a5 904 0), .ref (up2 (up2 (up2 (up2 (up2 L 900 2 a1) 900 3 a2) 902 1 a3) 903 1 a4) 905 1 a5 905 1)].reverse := by
    rw [← hLL 901 0 (vd_1 (by decide)), ← hLL 904 0 (vd_1 (by decide))]
    simp [up2, up1]
  generalize up2 (up2 (up2 (up2 (up2 L 900 2 a1) 900 3 a2) 902 1 a3) 903 1 a4) 905 1 a5 = L5 at hV hLL hst
  have hV : VX D cI cZ cO t0 z0 x9 κ (dA (dA (dA (dA (dA vdom 900 2) 900 3) 902 1) 903 1) 905 1) L5 (fcp σ) (fun q => ((((vim L q ∨ q = a1) ∨ q = a2) ∨ q = a3) ∨ q = a4) ∨ q = a5) H := hV
  have hrs := (fcp_RS σ).tr (hn_RS (fcp σ))
  have hM := c_L_night (D := D) (cI := cI) (cZ := cZ) (cO := cO) l L5 (fcp σ) (fun q => ((((vim L q ∨ q = a1) ∨ q = a2) ∨ q = a3) ∨ q = a4) ∨ q = a5) 2 3 1 1 1 hd hNI
  generalize h_night 2 3 1 1 1 (fcp σ) = Z at hM hrs ⊢
  refine x_call X hK hV hS ysL_night ml_L_45 [.ref (L5 900 2), .ref (L5 900 3), .ref (L5 901 0), .ref (L5 902 1), .ref (L5 903 1), .ref (L5 904 0), .ref (L5 905 1)] [] hM (hst.trans (List.append_nil _).symm) hl.1 rfl (Nat.le_of_ble_eq_true rfl) ⟨Nat.le_of_ble_eq_true rfl, Nat.le_of_ble_eq_true rfl⟩ ⟨Nat.le_of_ble_eq_true rfl, Nat.le_of_ble_eq_true rfl⟩ dL_foreseen_25 (fun H locs hV hS => ?_)
  obtain ⟨g1, g2⟩ := e9_all hrs
  exact vi_ret X hr hlocks ⟨h_e9 Z.2 σ, e9_RS, hV.vd (fun F k z => Or.inl (Or.inl (Or.inl (Or.inl (Or.inl z))))) hLL g1 g2⟩ hS rfl (Nat.le_of_ble_eq_true rfl) (Nat.le_of_ble_eq_true rfl) rfl dL_foreseen_28
set_option maxRecDepth 100000 in
set_option maxHeartbeats 4000000 in
theorem v_L_lacks {D : va_G} {cI cZ cO : ClassId} {t0 mi z0 x9 : Nat} {L : Lay} (l : Launch) (K kd : Nat) (κ σ τ : St) (hkd : kd < 4) (hJ : JJ K σ τ) (hw : GW wr0 τ) : VI D cI cZ cO t0 mi z0 l yL_lacks cL_lacks 12 ((some FieldType.int)) 5 145 2 96 [.ref (L 900 0), .ref (L 900 1), .ref (L 901 0), .ref (L 902 0), .ref (L 903 0), .ref (L 904 0), .ref (L 905 0), .int (nI kd)] (Vd D cI cZ cO t0 z0 x9 L κ σ) (VE9 D cI cZ cO t0 z0 x9 L κ σ) ((h_lacks kd σ).1) := by
  refine vi_of rfl (Nat.le_of_ble_eq_true rfl) ?_
  intro p e s m args below meth c ls X hK hE hX hP hz hr hlocks hl
  have X : CallFix p m c cL_lacks 12 s args TB RL := X
  have hx := X.1
  have hb := X.2.1
  have hS : va_S (vA z0) s.heap s.heap [] := va_S.rf
  have hl : lv_has ls 12 [(0, .ref (L 900 0)), (1, .ref (L 900 1)), (2, .ref (L 901 0)), (3, .ref (L 902 0)), (4, .ref (L 903 0)), (5, .ref (L 904 0)), (6, .ref (L 905 0)), (7, .int (nI kd))] := hl
  have hW : Vd D cI cZ cO t0 z0 x9 L κ σ s.heap := hP
  have t926 : tn (σ.2.2.2 905 0 10) = τ.1 926 0 := by have b2 := hJ.2.2.2.2.2.1.2.1; rw [hJ.2.2.2.2.2.1.1, tn_nI (by omega)]
  have hq2 : tn (σ.2.2.2 905 0 10) ≤ 2 := by rw [t926]; exact hJ.2.2.2.2.2.1.2.1
  have hq0 : σ.2.2.2 905 0 10 = nI (tn (σ.2.2.2 905 0 10)) := by rw [t926]; exact hJ.2.2.2.2.2.1.1
  refine lv_iconst (v := nI 0) hx hb dL_lacks_0 (by decide) ?_
  refine lv_istore (lv' := [(8, .int (nI 0)), (0, .ref (L 900 0)), (1, .ref (L 900 1)), (2, .ref (L 901 0)), (3, .ref (L 902 0)), (4, .ref (L 903 0)), (5, .ref (L 904 0)), (6, .ref (L 905 0)), (7, .int (nI kd))]) hx hb dL_lacks_1 hl (by decide) rfl (fun ls hl => ?_)
  refine lv_iconst (v := nI 0) hx hb dL_lacks_3 (by decide) ?_
  refine lv_istore (lv' := [(9, .int (nI 0)), (8, .int (nI 0)), (0, .ref (L 900 0)), (1, .ref (L 900 1)), (2, .ref (L 901 0)), (3, .ref (L 902 0)), (4, .ref (L 903 0)), (5, .ref (L 904 0)), (6, .ref (L 905 0)), (7, .int (nI kd))]) hx hb dL_lacks_4 hl (by decide) rfl (fun ls hl => ?_)
  refine r_loopP (ι := Nat) (fun (k9 : Nat) => [(0, .ref (L 900 0)), (1, .ref (L 900 1)), (2, .ref (L 901 0)), (3, .ref (L 902 0)), (4, .ref (L 903 0)), (5, .ref (L 904 0)), (6, .ref (L 905 0)), (7, .int (nI kd)), (8, .int ((h_lk kd k9 σ).1)), (9, .int (nI k9))]) (fun (k9 : Nat) => (fun H => Vd D cI cZ cO t0 z0 x9 L κ (h_lk kd k9 σ).2 H)) (fun (k9 : Nat) => tn (σ.2.2.2 905 0 10) - k9) (fun (k9 : Nat) => k9 ≤ tn (σ.2.2.2 905 0 10)) (fun k9 => k9) (fun k9 => 48 * k9) 0 (Nat.zero_le _) hW hS (lv_sub hl [2, 3, 4, 5, 6, 7, 8, 9, 1, 0] rfl) rfl rfl ?_
  rintro k9 hinv ih H locs ls hW hS hl
  have hW : Vd D cI cZ cO t0 z0 x9 L κ (h_lk kd k9 σ).2 H := hW
  have hG : PW D cI cZ cO vdom L ((h_lk kd k9 σ).2) (vim L) H := hW.g
  have hl : lv_has ls 12 [(0, .ref (L 900 0)), (1, .ref (L 900 1)), (2, .ref (L 901 0)), (3, .ref (L 902 0)), (4, .ref (L 903 0)), (5, .ref (L 904 0)), (6, .ref (L 905 0)), (7, .int (nI kd)), (8, .int ((h_lk kd k9 σ).1)), (9, .int (nI k9))] := hl
  obtain hk0 := hinv
  have i9 := lk_sim hkd hJ hw k9 (by omega)
  have hq10 : (h_lk kd k9 σ).2.2.2.2 905 0 10 = nI (tn (σ.2.2.2 905 0 10)) := by rw [i9.2.1.2.1 905 0 (vd_1 (by decide)) (by decide)]; exact hq0
  have hN5 : (h_lk kd k9 σ).2.2.2.1 905 0 0 = 11 := (congrFun (i9.2.1.1 905 0 (vd_1 (by decide))) 0).trans hJ.1.2.2
  refine lv_iload hx hb dL_lacks_6 (lv_at hl 9 rfl) ?_
  refine lv_aload hx hb dL_lacks_8 (lv_at hl 6 rfl) ?_
  refine lv_bipush (v := nI 10) hx hb dL_lacks_10 (by decide) ?_
  refine pw_ald8 X hK hG 905 fa_905 (vd_1 (by decide)) (i := 10) (N := ((h_lk kd k9 σ).2).2.2.1 905 0 0) (x := ((h_lk kd k9 σ).2).2.2.2 905 0 10) rfl (by omega) (by omega) rfl dL_lacks_12 ?_
  refine r_top (y := nI (tn (σ.2.2.2 905 0 10))) (hq10) ?_
  refine r_icmp_geN (tgt := 99) hx hb dL_lacks_13 (by decide) (by omega) (by omega) (fun c_13 => ?_) (fun c_13 => ?_)
  · have hkQ : k9 = tn (σ.2.2.2 905 0 10) := by omega
    have eQ : h_lk kd k9 σ = h_lk kd (tn (σ.2.2.2 905 0 10)) σ := by rw [hkQ]
    rw [eQ] at i9 hW hG hl
    generalize hX9 : h_lk kd (tn (σ.2.2.2 905 0 10)) σ = X9 at i9 hW hG hl
    have hN2 : X9.2.2.2.1 902 0 0 = 36 := (congrFun (i9.2.1.1 902 0 (vd_1 (by decide))) 0).trans hJ.1.1
    refine lv_iconst (v := nI 0) hx hb dL_lacks_99 (by decide) ?_
    refine lv_istore (lv' := [(9, .int (nI 0)), (0, .ref (L 900 0)), (1, .ref (L 900 1)), (2, .ref (L 901 0)), (3, .ref (L 902 0)), (4, .ref (L 903 0)), (5, .ref (L 904 0)), (6, .ref (L 905 0)), (7, .int (nI kd)), (8, .int X9.1)]) hx hb dL_lacks_100 hl (by decide) rfl (fun ls hl => ?_)
    refine r_loopP (ι := Nat) (fun (j9 : Nat) => [(0, .ref (L 900 0)), (1, .ref (L 900 1)), (2, .ref (L 901 0)), (3, .ref (L 902 0)), (4, .ref (L 903 0)), (5, .ref (L 904 0)), (6, .ref (L 905 0)), (7, .int (nI kd)), (8, .int (h_ll kd X9.2 X9.1 j9)), (9, .int (nI j9))]) (fun (j9 : Nat) => (fun H => Vd D cI cZ cO t0 z0 x9 L κ X9.2 H)) (fun (j9 : Nat) => 4 - j9) (fun (j9 : Nat) => j9 ≤ 4) (fun _ => k9) (fun _ => 48 * k9) 0 (Nat.zero_le _) hW hS (lv_sub hl [1, 2, 3, 4, 5, 6, 7, 8, 9, 0] rfl) rfl rfl ?_
    rintro j9 hinv ih H locs ls hW hS hl
    have hW : Vd D cI cZ cO t0 z0 x9 L κ X9.2 H := hW
    have hG : PW D cI cZ cO vdom L X9.2 (vim L) H := hW.g
    have hl : lv_has ls 12 [(0, .ref (L 900 0)), (1, .ref (L 900 1)), (2, .ref (L 901 0)), (3, .ref (L 902 0)), (4, .ref (L 903 0)), (5, .ref (L 904 0)), (6, .ref (L 905 0)), (7, .int (nI kd)), (8, .int (h_ll kd X9.2 X9.1 j9)), (9, .int (nI j9))] := hl
    obtain hj0 := hinv
    refine lv_iload hx hb dL_lacks_102 (lv_at hl 9 rfl) ?_
    refine lv_iconst (v := nI 4) hx hb dL_lacks_104 (by decide) ?_
    refine r_icmp_geN (tgt := 167) hx hb dL_lacks_105 (by decide) (by omega) (by omega) (fun c_105 => ?_) (fun c_105 => ?_)
    · have hj4 : j9 = 4 := by omega
      refine r_cutV (P := fun H => Vd D cI cZ cO t0 z0 x9 L κ X9.2 H) 178 [.int (if 0 < (h_ll kd X9.2 X9.1 j9) then (h_ll kd X9.2 X9.1 j9) else nI 0)] hW hS (fun H locs hW hS => ?_) (fun J_178 => ?_)
      · have hW : Vd D cI cZ cO t0 z0 x9 L κ X9.2 H := hW
        have hG : PW D cI cZ cO vdom L X9.2 (vim L) H := hW.g
        exact vi_ret X hr hlocks (⟨X9.2, i9.2.1, hW⟩) hS (by unfold h_lacks; rw [hX9, hj4]) (by show k9 ≤ 2; omega) (by show 48 * k9 ≤ 96; omega) rfl dL_lacks_178
      · have hj4 : j9 = 4 := by omega
        refine lv_iload hx hb dL_lacks_167 (lv_at hl 8 rfl) ?_
        refine lv_if_le (tgt := 177) hx hb dL_lacks_169 (by decide) (fun c_169 => ?_) (fun c_169 => ?_)
        · refine lv_iconst (v := nI 0) hx hb dL_lacks_177 (by decide) ?_
          exact r_top ((if_neg (Int32.not_lt.mpr c_169)).symm) (J_178 _ _ hW hS)
        · refine lv_iload hx hb dL_lacks_172 (lv_at hl 8 rfl) ?_
          refine lv_goto (tgt := 178) hx hb dL_lacks_174 (by decide) ?_
          exact r_top ((if_pos (Int32.not_le.mp c_169)).symm) (J_178 _ _ hW hS)
    · refine lv_iload hx hb dL_lacks_108 (lv_at hl 8 rfl) ?_
      refine r_cutV (P := fun H => Vd D cI cZ cO t0 z0 x9 L κ X9.2 H) 158 [.int (if X9.2.2.2.2 902 0 (9 * j9) = nI kd then (if X9.2.2.2.2 902 0 (9 * j9 + 4) = nI 1 then X9.2.2.2.2 902 0 (9 * j9 + 1) - X9.2.2.2.2 902 0 (9 * j9 + 2) else nI 0) else nI 0), .int (h_ll kd X9.2 X9.1 j9)] hW hS (fun H locs hW hS => ?_) (fun J_158 => ?_)
      · have hW : Vd D cI cZ cO t0 z0 x9 L κ X9.2 H := hW
        have hG : PW D cI cZ cO vdom L X9.2 (vim L) H := hW.g
        refine lv_isub hx hb dL_lacks_158 ?_
        refine r_top (y := (h_ll kd X9.2 X9.1 (j9 + 1))) (rfl) ?_
        refine lv_istore (lv' := [(8, .int (h_ll kd X9.2 X9.1 (j9 + 1))), (0, .ref (L 900 0)), (1, .ref (L 900 1)), (2, .ref (L 901 0)), (3, .ref (L 902 0)), (4, .ref (L 903 0)), (5, .ref (L 904 0)), (6, .ref (L 905 0)), (7, .int (nI kd)), (9, .int (nI j9))]) hx hb dL_lacks_159 hl (by decide) rfl (fun ls hl => ?_)
        refine r_iincN (b := 1) (lv' := [(9, .int (nI (j9 + 1))), (8, .int (h_ll kd X9.2 X9.1 (j9 + 1))), (0, .ref (L 900 0)), (1, .ref (L 900 1)), (2, .ref (L 901 0)), (3, .ref (L 902 0)), (4, .ref (L 903 0)), (5, .ref (L 904 0)), (6, .ref (L 905 0)), (7, .int (nI kd))]) hx hb dL_lacks_161 hl (k := 9) rfl (by decide) (by decide) rfl (fun ls hl => ?_)
        refine lv_goto (tgt := 102) hx hb dL_lacks_164 (by decide) ?_
        exact ih (j9 + 1) (by show 4 - (j9 + 1) < 4 - j9; omega) (by show j9 + 1 ≤ 4; omega) H locs ls (hW) hS (lv_sub hl [2, 3, 4, 5, 6, 7, 8, 9, 1, 0] rfl)
      · refine lv_aload_n hx hb dL_lacks_110 rfl (lv_at hl 3 rfl) ?_
        refine lv_bipush (v := nI 9) hx hb dL_lacks_111 (by decide) ?_
        refine lv_iload hx hb dL_lacks_113 (lv_at hl 9 rfl) ?_
        refine r_mulN hx hb dL_lacks_115 ?_
        refine pw_ald8 X hK hG 902 fa_902 (vd_1 (by decide)) (i := 9 * j9) (N := X9.2.2.2.1 902 0 0) (x := X9.2.2.2.2 902 0 (9 * j9)) rfl (by omega) (by omega) rfl dL_lacks_116 ?_
        refine lv_iload hx hb dL_lacks_117 (lv_at hl 7 rfl) ?_
        refine lv_icmp_ne (tgt := 157) hx hb dL_lacks_119 (by decide) (fun c_119 => ?_) (fun c_119 => ?_)
        · refine lv_iconst (v := nI 0) hx hb dL_lacks_157 (by decide) ?_
          exact r_top ((if_neg c_119).symm) (J_158 _ _ hW hS)
        · refine lv_aload_n hx hb dL_lacks_122 rfl (lv_at hl 3 rfl) ?_
          refine lv_bipush (v := nI 9) hx hb dL_lacks_123 (by decide) ?_
          refine lv_iload hx hb dL_lacks_125 (lv_at hl 9 rfl) ?_
          refine r_mulN hx hb dL_lacks_127 ?_
          refine lv_iconst (v := nI 4) hx hb dL_lacks_128 (by decide) ?_
          refine r_addN hx hb dL_lacks_129 ?_
          refine pw_ald8 X hK hG 902 fa_902 (vd_1 (by decide)) (i := 9 * j9 + 4) (N := X9.2.2.2.1 902 0 0) (x := X9.2.2.2.2 902 0 (9 * j9 + 4)) rfl (by omega) (by omega) rfl dL_lacks_130 ?_
          refine lv_iconst (v := nI 1) hx hb dL_lacks_131 (by decide) ?_
          refine lv_icmp_ne (tgt := 157) hx hb dL_lacks_132 (by decide) (fun c_132 => ?_) (fun c_132 => ?_)
          · refine lv_iconst (v := nI 0) hx hb dL_lacks_157 (by decide) ?_
            exact r_top (((if_pos c_119).trans (if_neg c_132)).symm) (J_158 _ _ hW hS)
          · refine lv_aload_n hx hb dL_lacks_135 rfl (lv_at hl 3 rfl) ?_
            refine lv_bipush (v := nI 9) hx hb dL_lacks_136 (by decide) ?_
            refine lv_iload hx hb dL_lacks_138 (lv_at hl 9 rfl) ?_
            refine r_mulN hx hb dL_lacks_140 ?_
            refine lv_iconst (v := nI 1) hx hb dL_lacks_141 (by decide) ?_
            refine r_addN hx hb dL_lacks_142 ?_
            refine pw_ald8 X hK hG 902 fa_902 (vd_1 (by decide)) (i := 9 * j9 + 1) (N := X9.2.2.2.1 902 0 0) (x := X9.2.2.2.2 902 0 (9 * j9 + 1)) rfl (by omega) (by omega) rfl dL_lacks_143 ?_
            refine lv_aload_n hx hb dL_lacks_144 rfl (lv_at hl 3 rfl) ?_
            refine lv_bipush (v := nI 9) hx hb dL_lacks_145 (by decide) ?_
            refine lv_iload hx hb dL_lacks_147 (lv_at hl 9 rfl) ?_
            refine r_mulN hx hb dL_lacks_149 ?_
            refine lv_iconst (v := nI 2) hx hb dL_lacks_150 (by decide) ?_
            refine r_addN hx hb dL_lacks_151 ?_
            refine pw_ald8 X hK hG 902 fa_902 (vd_1 (by decide)) (i := 9 * j9 + 2) (N := X9.2.2.2.1 902 0 0) (x := X9.2.2.2.2 902 0 (9 * j9 + 2)) rfl (by omega) (by omega) rfl dL_lacks_152 ?_
            refine lv_isub hx hb dL_lacks_153 ?_
            refine lv_goto (tgt := 158) hx hb dL_lacks_154 (by decide) ?_
            exact r_top (((if_pos c_119).trans (if_pos c_132)).symm) (J_158 _ _ hW hS)
  · have j9 := (hJ.rho i9.2.1).tau i9.2.2
    have r9 := lr_sim hkd j9 (hw.ts i9.2.2) (by rw [i9.2.2.1 926 (by decide), ← t926]; exact c_13)
    generalize hY9 : h_lk kd k9 σ = Y9 at i9 j9 r9 hq10 hW hG hl
    have bP : h_lp k9 Y9.2 < 2 := ix_lt r9.2.2.2.2.1
    have bR := ix_lt r9.2.2.2.2.2.1
    have bF := ix_lt r9.2.2.2.2.2.2.1
    have hN5 : Y9.2.2.2.1 905 0 0 = 11 := j9.1.2.2
    refine lv_aload hx hb dL_lacks_16 (lv_at hl 6 rfl) ?_
    refine lv_bipush (v := nI 8) hx hb dL_lacks_18 (by decide) ?_
    refine lv_iload hx hb dL_lacks_20 (lv_at hl 9 rfl) ?_
    refine r_addN hx hb dL_lacks_22 ?_
    refine pw_ald8 X hK hG 905 fa_905 (vd_1 (by decide)) (i := 8 + k9) (N := Y9.2.2.2.1 905 0 0) (x := Y9.2.2.2.2 905 0 (8 + k9)) rfl (by omega) (by omega) rfl dL_lacks_23 ?_
    refine r_top (y := nI (h_lp k9 Y9.2)) (ix_eq r9.2.2.2.2.1) ?_
    refine lv_istore (lv' := [(10, .int (nI (h_lp k9 Y9.2))), (0, .ref (L 900 0)), (1, .ref (L 900 1)), (2, .ref (L 901 0)), (3, .ref (L 902 0)), (4, .ref (L 903 0)), (5, .ref (L 904 0)), (6, .ref (L 905 0)), (7, .int (nI kd)), (8, .int Y9.1), (9, .int (nI k9))]) hx hb dL_lacks_24 hl (by decide) rfl (fun ls hl => ?_)
    refine r_cutV (P := fun H => Vd D cI cZ cO t0 z0 x9 L κ Y9.2 H) 36 [.ref (L 900 (h_lp k9 Y9.2))] hW hS (fun H locs hW hS => ?_) (fun J_36 => ?_)
    · have hW : Vd D cI cZ cO t0 z0 x9 L κ Y9.2 H := hW
      have hG : PW D cI cZ cO vdom L Y9.2 (vim L) H := hW.g
      refine x_cp X hK (VX.of hW) hS (kr := h_lp k9 Y9.2) 2 vd_LD (vd_0 bP) (nd_9 (by decide)) rfl hl.1 (Nat.le_of_ble_eq_true rfl) ⟨Nat.le_of_ble_eq_true rfl, Nat.le_of_ble_eq_true rfl⟩ ⟨by show k9 + 1 ≤ 2; omega, by show 48 * k9 + 48 ≤ 96; omega⟩ dL_lacks_36 (fun a9 H locs hV hS => ?_)
      have hW : Vd D cI cZ cO t0 z0 x9 L κ Y9.2 H := hV.vd (fun F k z => Or.inl z) (fun F k z => up2_v z) (fun F k z => ((cpj_RS (by decide)).1 F k z).symm) (fun _ _ _ => rfl)
      have hG : PW D cI cZ cO vdom L Y9.2 (vim L) H := hW.g
      refine lv_aload_n hx hb dL_lacks_39 rfl (lv_at hl 3 rfl) ?_
      refine lv_aload_n hx hb dL_lacks_40 rfl (lv_at hl 4 rfl) ?_
      refine lv_aload hx hb dL_lacks_41 (lv_at hl 5 rfl) ?_
      refine lv_aload hx hb dL_lacks_43 (lv_at hl 6 rfl) ?_
      refine lv_aload hx hb dL_lacks_45 (lv_at hl 7 rfl) ?_
      refine lv_iconst (v := nI 4) hx hb dL_lacks_47 (by decide) ?_
      refine lv_iload hx hb dL_lacks_48 (lv_at hl 0 rfl) ?_
      refine r_mulN hx hb dL_lacks_50 ?_
      refine lv_iconst (v := nI 1) hx hb dL_lacks_51 (by decide) ?_
      refine r_addN hx hb dL_lacks_52 ?_
      refine pw_ald8 X hK hG 905 fa_905 (vd_1 (by decide)) (i := (4 * (h_lp k9 Y9.2)) + 1) (N := Y9.2.2.2.1 905 0 0) (x := Y9.2.2.2.2 905 0 ((4 * (h_lp k9 Y9.2)) + 1)) rfl (by omega) (by omega) rfl dL_lacks_53 ?_
      refine r_top (y := nI (tn (Y9.2.2.2.2 905 0 (4 * h_lp k9 Y9.2 + 1)))) (ix_eq r9.2.2.2.2.2.1) ?_
      refine lv_aload hx hb dL_lacks_54 (lv_at hl 7 rfl) ?_
      refine lv_iconst (v := nI 4) hx hb dL_lacks_56 (by decide) ?_
      refine lv_iload hx hb dL_lacks_57 (lv_at hl 0 rfl) ?_
      refine r_mulN hx hb dL_lacks_59 ?_
      refine lv_iconst (v := nI 2) hx hb dL_lacks_60 (by decide) ?_
      refine r_addN hx hb dL_lacks_61 ?_
      refine pw_ald8 X hK hG 905 fa_905 (vd_1 (by decide)) (i := (4 * (h_lp k9 Y9.2)) + 2) (N := Y9.2.2.2.1 905 0 0) (x := Y9.2.2.2.2 905 0 ((4 * (h_lp k9 Y9.2)) + 2)) rfl (by omega) (by omega) rfl dL_lacks_62 ?_
      refine r_top (y := nI (tn (Y9.2.2.2.2 905 0 (4 * h_lp k9 Y9.2 + 2)))) (ix_eq r9.2.2.2.2.2.2.1) ?_
      refine lv_iconst (v := nI 0) hx hb dL_lacks_63 (by decide) ?_
      refine x_run X hK j9 (q := h_lp k9 Y9.2) (pr := tn (Y9.2.2.2.2 905 0 (4 * h_lp k9 Y9.2 + 1))) (fr := tn (Y9.2.2.2.2 905 0 (4 * h_lp k9 Y9.2 + 2))) (a := a9) (rest := []) bP bR (by omega) hV hS (idx := 33) ml_L_33 rfl hl.1 (Nat.le_of_ble_eq_true rfl) ⟨Nat.le_of_ble_eq_true rfl, Nat.le_of_ble_eq_true rfl⟩ ⟨by show k9 + 1 ≤ 2; omega, by show 48 * k9 + 48 ≤ 96; omega⟩ dL_lacks_64 (fun σ2 H locs hσ2 hW hS => ?_)
      have hlr : h_lr k9 Y9.2 = h_run 2 0 0 (tn (Y9.2.2.2.2 905 0 (4 * h_lp k9 Y9.2 + 1))) (tn (Y9.2.2.2.2 905 0 (4 * h_lp k9 Y9.2 + 2))) 0 (cpj (h_lp k9 Y9.2) 2 48 Y9.2) := by unfold h_lr; rfl
      rw [← hlr] at hσ2 ⊢
      clear hlr
      generalize hZ9 : h_lr k9 Y9.2 = Z9 at hσ2 ⊢
      have e2 : (h_lk kd (k9 + 1) σ).2 = σ2 := by rw [hlk_s, hY9, hZ9]; exact hσ2.symm
      have e1 : (Y9.1 + (if Z9.1 = 0 then Z9.2.2.2.2 904 0 (8 + kd) else nI 1000)) = (h_lk kd (k9 + 1) σ).1 := by rw [hlk_s, hY9, hZ9]
      have hG : PW D cI cZ cO vdom L σ2 (vim L) H := hW.g
      refine lv_istore (lv' := [(11, .int Z9.1), (10, .int (nI (h_lp k9 Y9.2))), (0, .ref (L 900 0)), (1, .ref (L 900 1)), (2, .ref (L 901 0)), (3, .ref (L 902 0)), (4, .ref (L 903 0)), (5, .ref (L 904 0)), (6, .ref (L 905 0)), (7, .int (nI kd)), (8, .int Y9.1), (9, .int (nI k9))]) hx hb dL_lacks_67 hl (by decide) rfl (fun ls hl => ?_)
      refine lv_iload hx hb dL_lacks_69 (lv_at hl 10 rfl) ?_
      refine r_cutV (P := fun H => Vd D cI cZ cO t0 z0 x9 L κ σ2 H) 90 [.int (if Z9.1 = 0 then Z9.2.2.2.2 904 0 (8 + kd) else nI 1000), .int Y9.1] hW hS (fun H locs hW hS => ?_) (fun J_90 => ?_)
      · have hW : Vd D cI cZ cO t0 z0 x9 L κ σ2 H := hW
        have hG : PW D cI cZ cO vdom L σ2 (vim L) H := hW.g
        refine lv_iadd hx hb dL_lacks_90 ?_
        refine r_top (y := (h_lk kd (k9 + 1) σ).1) (e1) ?_
        refine lv_istore (lv' := [(8, .int ((h_lk kd (k9 + 1) σ).1)), (11, .int Z9.1), (10, .int (nI (h_lp k9 Y9.2))), (0, .ref (L 900 0)), (1, .ref (L 900 1)), (2, .ref (L 901 0)), (3, .ref (L 902 0)), (4, .ref (L 903 0)), (5, .ref (L 904 0)), (6, .ref (L 905 0)), (7, .int (nI kd)), (9, .int (nI k9))]) hx hb dL_lacks_91 hl (by decide) rfl (fun ls hl => ?_)
        refine r_iincN (b := 1) (lv' := [(9, .int (nI (k9 + 1))), (8, .int ((h_lk kd (k9 + 1) σ).1)), (11, .int Z9.1), (10, .int (nI (h_lp k9 Y9.2))), (0, .ref (L 900 0)), (1, .ref (L 900 1)), (2, .ref (L 901 0)), (3, .ref (L 902 0)), (4, .ref (L 903 0)), (5, .ref (L 904 0)), (6, .ref (L 905 0)), (7, .int (nI kd))]) hx hb dL_lacks_93 hl (k := 11) rfl (by decide) (by decide) rfl (fun ls hl => ?_)
        refine lv_goto (tgt := 6) hx hb dL_lacks_96 (by decide) ?_
        exact ih (k9 + 1) (by show tn (σ.2.2.2 905 0 10) - (k9 + 1) < tn (σ.2.2.2 905 0 10) - k9; omega) (by show k9 + 1 ≤ tn (σ.2.2.2 905 0 10); omega) H locs ls (by rw [e2]; exact hW) hS (lv_sub hl [4, 5, 6, 7, 8, 9, 10, 11, 1, 0] rfl)
      · refine lv_iload hx hb dL_lacks_71 (lv_at hl 0 rfl) ?_
        refine lv_if_ne (tgt := 87) hx hb dL_lacks_73 (by decide) (fun c_73 => ?_) (fun c_73 => ?_)
        · refine lv_sipush (v := nI 1000) hx hb dL_lacks_87 (by decide) ?_
          exact r_top ((if_neg c_73).symm) (J_90 _ _ hW hS)
        · refine lv_aload hx hb dL_lacks_76 (lv_at hl 7 rfl) ?_
          refine lv_bipush (v := nI 8) hx hb dL_lacks_78 (by decide) ?_
          refine lv_iload hx hb dL_lacks_80 (lv_at hl 9 rfl) ?_
          refine r_addN hx hb dL_lacks_82 ?_
          refine al_904 X hK hG (vd_1 (by decide)) (i := 8 + kd) (x := σ2.2.2.2 904 0 (8 + kd)) (by omega) rfl dL_lacks_83 ?_
          refine lv_goto (tgt := 90) hx hb dL_lacks_84 (by decide) ?_
          exact r_top (by rw [if_pos c_73, hσ2, e9_v]) (J_90 _ _ hW hS)
    · refine lv_iload hx hb dL_lacks_26 (lv_at hl 0 rfl) ?_
      refine r_if_neN (tgt := 35) hx hb dL_lacks_28 (by decide) (by omega) (fun c_28 => ?_) (fun c_28 => ?_)
      · refine lv_aload_n hx hb dL_lacks_35 rfl (lv_at hl 2 rfl) ?_
        exact r_topR (congrArg (L 900) (by omega)) (J_36 _ _ hW hS)
      · refine lv_aload_n hx hb dL_lacks_31 rfl (lv_at hl 1 rfl) ?_
        refine lv_goto (tgt := 36) hx hb dL_lacks_32 (by decide) ?_
        exact r_topR (congrArg (L 900) (by omega)) (J_36 _ _ hW hS)
