set_option maxRecDepth 100000 in
set_option maxHeartbeats 4000000 in
theorem v_L_isTold {D : va_G} {cI cZ cO : ClassId} {t0 mi z0 x9 : Nat} {L : Lay} (l : Launch) (hl9 : l.stackTraces = false) (K w z : Nat) (hK9 : K ≤ 900000) (hw : w < 5) (hz9 : z < 1000000000) : VI D cI cZ cO t0 mi z0 l yL_isTold cL_isTold 8 ((some FieldType.boolean)) 8 167 2 12 [.ref x9, .ref (L 902 0), .ref (L 903 0), .int (nI w), .int (nI z)] (VQ D cI cZ cO t0 z0 x9 L K) (VQ D cI cZ cO t0 z0 x9 L (K + 500)) (nI 1) := by
  refine vi_of rfl (Nat.le_of_ble_eq_true rfl) ?_
  intro p e s m args below meth c ls X hK hE hX hP hz hr hlocks hl
  have X : CallFix p m c cL_isTold 8 s args TB RL := X
  have hx := X.1
  have hb := X.2.1
  have hS : va_S (vA z0) s.heap s.heap [] := va_S.rf
  have hl : lv_has ls 8 [(0, .ref x9), (1, .ref (L 902 0)), (2, .ref (L 903 0)), (3, .int (nI w)), (4, .int (nI z))] := hl
  obtain ⟨κ, σ, τ, hW, hR, hJ⟩ := hP
  have hG : PW D cI cZ cO vdom L σ (vim L) s.heap := hW.g
  have hN2 : σ.2.2.1 902 0 0 = 36 := hJ.1.1
  have hN3 : σ.2.2.1 903 0 0 = 37 := hJ.1.2.1
  have hN5 : σ.2.2.1 905 0 0 = 11 := hJ.1.2.2
  refine lv_iload hx hb dL_isTold_0 (lv_at hl 4 rfl) ?_
  refine lv_iconst (v := nI 4) hx hb dL_isTold_2 (by decide) ?_
  refine r_remN hx hb (by omega) (by decide) (by decide) dL_isTold_3 ?_
  refine lv_istore (lv' := [(5, .int (nI (z % 4))), (0, .ref x9), (1, .ref (L 902 0)), (2, .ref (L 903 0)), (3, .int (nI w)), (4, .int (nI z))]) hx hb dL_isTold_4 hl (by decide) rfl (fun ls hl => ?_)
  refine lv_iload_n hx hb dL_isTold_6 rfl (lv_at hl 4 rfl) ?_
  refine r_if_neN (tgt := 80) hx hb dL_isTold_7 (by decide) (by omega) (fun c_7 => ?_) (fun c_7 => ?_)
  · refine lv_iload_n hx hb dL_isTold_80 rfl (lv_at hl 4 rfl) ?_
    refine lv_iconst (v := nI 1) hx hb dL_isTold_81 (by decide) ?_
    refine r_icmp_neN (tgt := 142) hx hb dL_isTold_82 (by decide) (by omega) (by omega) (fun c_82 => ?_) (fun c_82 => ?_)
    · refine lv_iload_n hx hb dL_isTold_142 rfl (lv_at hl 4 rfl) ?_
      refine lv_iconst (v := nI 2) hx hb dL_isTold_143 (by decide) ?_
      refine r_icmp_neN (tgt := 189) hx hb dL_isTold_144 (by decide) (by omega) (by omega) (fun c_144 => ?_) (fun c_144 => ?_)
      · refine lv_iload_n hx hb dL_isTold_189 rfl (lv_at hl 4 rfl) ?_
        refine lv_iconst (v := nI 3) hx hb dL_isTold_190 (by decide) ?_
        refine r_icmp_neN (tgt := 279) hx hb dL_isTold_191 (by decide) (by omega) (by omega) (fun c_191 => ?_) (fun c_191 => ?_)
        · refine lv_iconst (v := nI 1) hx hb dL_isTold_279 (by decide) ?_
          refine lv_iload hx hb dL_isTold_280 (lv_at hl 5 rfl) ?_
          refine lv_iconst (v := nI 4) hx hb dL_isTold_282 (by decide) ?_
          refine r_divN hx hb (by omega) (by decide) (by decide) dL_isTold_283 ?_
          refine r_cutV (P := fun H => Vd D cI cZ cO t0 z0 x9 L κ σ H) 299 [.int (nI (if z % 2 = 0 then 30 else 500)), .int (nI (z / 4)), .int (nI 1)] hW hS (fun H locs hW hS => ?_) (fun J_299 => ?_)
          · have hW : Vd D cI cZ cO t0 z0 x9 L κ σ H := hW
            have hG : PW D cI cZ cO vdom L σ (vim L) H := hW.g
            refine r_remN hx hb (by omega) (by split <;> decide) (by split <;> decide) dL_isTold_299 ?_
            refine r_addN hx hb dL_isTold_300 ?_
            obtain ⟨mn, hmn⟩ : ∃ mn, mn = 1 + (z / 4 % (if z % 2 = 0 then 30 else 500)) := ⟨_, rfl⟩
            have bmn : 1 ≤ mn ∧ mn ≤ 500 := by rw [hmn]; by_cases z2 : z % 2 = 0; (rw [if_pos z2]; omega); rw [if_neg z2]; omega
            refine r_top (y := nI mn) (congrArg nI hmn.symm) ?_
            refine lv_istore (lv' := [(6, .int (nI mn)), (5, .int (nI (z % 4))), (0, .ref x9), (1, .ref (L 902 0)), (2, .ref (L 903 0)), (3, .int (nI w)), (4, .int (nI z))]) hx hb dL_isTold_301 hl (by decide) rfl (fun ls hl => ?_)
            refine lv_aload_n hx hb dL_isTold_303 rfl (lv_at hl 4 rfl) ?_
            refine lv_iconst (v := nI 0) hx hb dL_isTold_304 (by decide) ?_
            refine lv_dup2_11 hx hb dL_isTold_305 rfl rfl ?_
            refine pw_ald8 X hK hG 903 fa_903 (vd_1 (by decide)) (i := 0) (N := σ.2.2.1 903 0 0) (x := σ.2.2.2 903 0 0) rfl (by omega) (by omega) rfl dL_isTold_306 ?_
            refine lv_iload hx hb dL_isTold_307 (lv_at hl 0 rfl) ?_
            refine lv_iadd hx hb dL_isTold_309 ?_
            refine vs_8 X hK hW hS 903 fa_903 (vd_1 (by decide)) (i := 0) (N := σ.2.2.1 903 0 0) rfl (by omega) (by omega) dL_isTold_310 (fun H locs hW hS => ?_)
            have hG : PW D cI cZ cO vdom L (wB σ 903 0 0 ((σ.2.2.2 903 0 0) + (nI mn))) (vim L) H := hW.g
            refine lv_aload_n hx hb dL_isTold_311 rfl (lv_at hl 4 rfl) ?_
            refine lv_iconst (v := nI 1) hx hb dL_isTold_312 (by decide) ?_
            refine r_cutV (P := fun H => Vd D cI cZ cO t0 z0 x9 L κ (wB σ 903 0 0 ((σ.2.2.2 903 0 0) + (nI mn))) H) 331 [.int (if σ.2.2.2 903 0 1 < nI mn then nI 0 else σ.2.2.2 903 0 1 - nI mn), .int (nI 1), .ref (L 903 0)] hW hS (fun H locs hW hS => ?_) (fun J_331 => ?_)
            · have hW : Vd D cI cZ cO t0 z0 x9 L κ (wB σ 903 0 0 ((σ.2.2.2 903 0 0) + (nI mn))) H := hW
              have hG : PW D cI cZ cO vdom L (wB σ 903 0 0 ((σ.2.2.2 903 0 0) + (nI mn))) (vim L) H := hW.g
              refine vs_8 X hK hW hS 903 fa_903 (vd_1 (by decide)) (i := 1) (N := σ.2.2.1 903 0 0) rfl (by omega) (by omega) dL_isTold_331 (fun H locs hW hS => ?_)
              have hG : PW D cI cZ cO vdom L (wB (wB σ 903 0 0 ((σ.2.2.2 903 0 0) + (nI mn))) 903 0 1 (if σ.2.2.2 903 0 1 < nI mn then nI 0 else σ.2.2.2 903 0 1 - nI mn)) (vim L) H := hW.g
              refine lv_aload_n hx hb dL_isTold_332 rfl (lv_at hl 2 rfl) ?_
              refine lv_iload hx hb dL_isTold_333 (lv_at hl 0 rfl) ?_
              refine v_oq X hK hE hX hW hS yvX8_idle ml_L_137 [.int (nI mn)] [] (Q_idle hl9 hR hJ (n := mn) bmn.1 bmn.2 hK9) rfl hl.1 rfl (Nat.le_of_ble_eq_true rfl) ⟨Nat.le_of_ble_eq_true rfl, Nat.le_of_ble_eq_true rfl⟩ ⟨Nat.le_of_ble_eq_true rfl, Nat.le_of_ble_eq_true rfl⟩ dL_isTold_335 (fun κ τ H locs hW hR hJ hS => ?_)
              have hG : PW D cI cZ cO vdom L (wB (wB σ 903 0 0 ((σ.2.2.2 903 0 0) + (nI mn))) 903 0 1 (if σ.2.2.2 903 0 1 < nI mn then nI 0 else σ.2.2.2 903 0 1 - nI mn)) (vim L) H := hW.g
              refine lv_aload_n hx hb dL_isTold_338 rfl (lv_at hl 4 rfl) ?_
              refine lv_iconst (v := nI 0) hx hb dL_isTold_339 (by decide) ?_
              refine pw_ald8 X hK hG 903 fa_903 (vd_1 (by decide)) (i := 0) (N := σ.2.2.1 903 0 0) (x := ((σ.2.2.2 903 0 0) + (nI mn))) rfl (by omega) (by omega) rfl dL_isTold_340 ?_
              refine lv_icmp_ne (tgt := 348) hx hb dL_isTold_341 (by decide) (fun c_341 => absurd rfl c_341) (fun c_341 => ?_)
              refine lv_iconst (v := nI 1) hx hb dL_isTold_344 (by decide) ?_
              refine lv_goto (tgt := 349) hx hb dL_isTold_345 (by decide) ?_
              exact vi_ret X hr hlocks (⟨κ, _, τ, hW, hR, hJ.mono (by omega)⟩) hS (rfl) (Nat.le_of_ble_eq_true rfl) (Nat.le_of_ble_eq_true rfl) rfl dL_isTold_349
            · refine lv_aload_n hx hb dL_isTold_313 rfl (lv_at hl 4 rfl) ?_
              refine lv_iconst (v := nI 1) hx hb dL_isTold_314 (by decide) ?_
              refine pw_ald8 X hK hG 903 fa_903 (vd_1 (by decide)) (i := 1) (N := σ.2.2.1 903 0 0) (x := σ.2.2.2 903 0 1) rfl (by omega) (by omega) rfl dL_isTold_315 ?_
              refine lv_iload hx hb dL_isTold_316 (lv_at hl 0 rfl) ?_
              refine lv_icmp_ge (tgt := 325) hx hb dL_isTold_318 (by decide) (fun c_318 => ?_) (fun c_318 => ?_)
              · refine lv_aload_n hx hb dL_isTold_325 rfl (lv_at hl 4 rfl) ?_
                refine lv_iconst (v := nI 1) hx hb dL_isTold_326 (by decide) ?_
                refine pw_ald8 X hK hG 903 fa_903 (vd_1 (by decide)) (i := 1) (N := σ.2.2.1 903 0 0) (x := σ.2.2.2 903 0 1) rfl (by omega) (by omega) rfl dL_isTold_327 ?_
                refine lv_iload hx hb dL_isTold_328 (lv_at hl 0 rfl) ?_
                refine lv_isub hx hb dL_isTold_330 ?_
                exact r_top ((if_neg (Int32.not_lt.mpr c_318)).symm) (J_331 _ _ hW hS)
              · refine lv_iconst (v := nI 0) hx hb dL_isTold_321 (by decide) ?_
                refine lv_goto (tgt := 331) hx hb dL_isTold_322 (by decide) ?_
                exact r_top ((if_pos (Int32.not_le.mp c_318)).symm) (J_331 _ _ hW hS)
          · refine lv_iload hx hb dL_isTold_284 (lv_at hl 5 rfl) ?_
            refine lv_iconst (v := nI 2) hx hb dL_isTold_286 (by decide) ?_
            refine r_remN hx hb (by omega) (by decide) (by decide) dL_isTold_287 ?_
            refine r_if_neN (tgt := 296) hx hb dL_isTold_288 (by decide) (by omega) (fun c_288 => ?_) (fun c_288 => ?_)
            · refine lv_sipush (v := nI 500) hx hb dL_isTold_296 (by decide) ?_
              exact r_top (by first | exact congrArg nI (if_pos c_288).symm | exact congrArg nI (if_neg c_288).symm) (J_299 _ _ hW hS)
            · refine lv_bipush (v := nI 30) hx hb dL_isTold_291 (by decide) ?_
              refine lv_goto (tgt := 299) hx hb dL_isTold_293 (by decide) ?_
              exact r_top (by first | exact congrArg nI (if_pos c_288).symm | exact congrArg nI (if_neg c_288).symm) (J_299 _ _ hW hS)
        · refine lv_bipush (v := nI 16) hx hb dL_isTold_194 (by decide) ?_
          refine lv_bipush (v := nI 6) hx hb dL_isTold_196 (by decide) ?_
          refine lv_iload hx hb dL_isTold_198 (lv_at hl 5 rfl) ?_
          refine lv_iconst (v := nI 2) hx hb dL_isTold_200 (by decide) ?_
          refine r_remN hx hb (by omega) (by decide) (by decide) dL_isTold_201 ?_
          refine r_mulN hx hb dL_isTold_202 ?_
          refine r_addN hx hb dL_isTold_203 ?_
          refine lv_istore (lv' := [(6, .int (nI (16 + (6 * (z % 2))))), (5, .int (nI (z % 4))), (0, .ref x9), (1, .ref (L 902 0)), (2, .ref (L 903 0)), (3, .int (nI w)), (4, .int (nI z))]) hx hb dL_isTold_204 hl (by decide) rfl (fun ls hl => ?_)
          refine lv_aload_n hx hb dL_isTold_206 rfl (lv_at hl 4 rfl) ?_
          refine lv_iload hx hb dL_isTold_207 (lv_at hl 0 rfl) ?_
          refine lv_iconst (v := nI 4) hx hb dL_isTold_209 (by decide) ?_
          refine r_addN hx hb dL_isTold_210 ?_
          refine lv_iload hx hb dL_isTold_211 (lv_at hl 6 rfl) ?_
          refine lv_iconst (v := nI 4) hx hb dL_isTold_213 (by decide) ?_
          refine r_divN hx hb (by omega) (by decide) (by decide) dL_isTold_214 ?_
          refine lv_bipush (v := nI 100) hx hb dL_isTold_215 (by decide) ?_
          refine r_remN hx hb (by omega) (by decide) (by decide) dL_isTold_217 ?_
          refine vs_8 X hK hW hS 903 fa_903 (vd_1 (by decide)) (i := (16 + (6 * (z % 2))) + 4) (N := σ.2.2.1 903 0 0) rfl (by omega) (by omega) dL_isTold_218 (fun H locs hW hS => ?_)
          have hG : PW D cI cZ cO vdom L (wB σ 903 0 ((16 + (6 * (z % 2))) + 4) (nI ((z / 4) % 100))) (vim L) H := hW.g
          refine lv_aload_n hx hb dL_isTold_219 rfl (lv_at hl 4 rfl) ?_
          refine lv_iload hx hb dL_isTold_220 (lv_at hl 0 rfl) ?_
          refine lv_iconst (v := nI 5) hx hb dL_isTold_222 (by decide) ?_
          refine r_addN hx hb dL_isTold_223 ?_
          refine lv_iconst (v := nI 1) hx hb dL_isTold_224 (by decide) ?_
          refine lv_iload hx hb dL_isTold_225 (lv_at hl 6 rfl) ?_
          refine lv_sipush (v := nI 400) hx hb dL_isTold_227 (by decide) ?_
          refine r_divN hx hb (by omega) (by decide) (by decide) dL_isTold_230 ?_
          refine lv_bipush (v := nI 9) hx hb dL_isTold_231 (by decide) ?_
          refine r_remN hx hb (by omega) (by decide) (by decide) dL_isTold_233 ?_
          refine r_addN hx hb dL_isTold_234 ?_
          refine vs_8 X hK hW hS 903 fa_903 (vd_1 (by decide)) (i := (16 + (6 * (z % 2))) + 5) (N := σ.2.2.1 903 0 0) rfl (by omega) (by omega) dL_isTold_235 (fun H locs hW hS => ?_)
          have hG : PW D cI cZ cO vdom L (wB (wB σ 903 0 ((16 + (6 * (z % 2))) + 4) (nI ((z / 4) % 100))) 903 0 ((16 + (6 * (z % 2))) + 5) (nI (1 + ((z / 400) % 9)))) (vim L) H := hW.g
          refine lv_aload_n hx hb dL_isTold_236 rfl (lv_at hl 2 rfl) ?_
          refine lv_iconst (v := nI 0) hx hb dL_isTold_237 (by decide) ?_
          refine lv_iload hx hb dL_isTold_238 (lv_at hl 6 rfl) ?_
          refine lv_iconst (v := nI 2) hx hb dL_isTold_240 (by decide) ?_
          refine r_remN hx hb (by omega) (by decide) (by decide) dL_isTold_241 ?_
          refine lv_aload_n hx hb dL_isTold_242 rfl (lv_at hl 4 rfl) ?_
          refine lv_iload hx hb dL_isTold_243 (lv_at hl 0 rfl) ?_
          refine lv_iconst (v := nI 4) hx hb dL_isTold_245 (by decide) ?_
          refine r_addN hx hb dL_isTold_246 ?_
          refine pw_ald8 X hK hG 903 fa_903 (vd_1 (by decide)) (i := (16 + (6 * (z % 2))) + 4) (N := σ.2.2.1 903 0 0) (x := nI ((z / 4) % 100)) rfl (by omega) (by omega) (by simp [wN, wI, wA, wB, up3, up2, up1, e_ne (σ := (wB σ 903 0 ((16 + (6 * (z % 2))) + 4) (nI ((z / 4) % 100)))) (F := 903) (k := 0) (i := ((16 + (6 * (z % 2))) + 5)) (j := ((16 + (6 * (z % 2))) + 4)) (v := (nI (1 + ((z / 400) % 9)))) (by omega)]) dL_isTold_247 ?_
          refine lv_aload_n hx hb dL_isTold_248 rfl (lv_at hl 4 rfl) ?_
          refine lv_iload hx hb dL_isTold_249 (lv_at hl 0 rfl) ?_
          refine lv_iconst (v := nI 5) hx hb dL_isTold_251 (by decide) ?_
          refine r_addN hx hb dL_isTold_252 ?_
          refine pw_ald8 X hK hG 903 fa_903 (vd_1 (by decide)) (i := (16 + (6 * (z % 2))) + 5) (N := σ.2.2.1 903 0 0) (x := nI (1 + ((z / 400) % 9))) rfl (by omega) (by omega) (by simp [wN, wI, wA, wB, up3, up2, up1]) dL_isTold_253 ?_
          refine v_oq X hK hE hX hW hS yvX8_allow ml_L_134 [.int (nI 0), .int (nI (z % 2)), .int (nI ((z / 4) % 100)), .int (nI (1 + ((z / 400) % 9)))] [] (Q_allow hl9 hR hJ (f9 := z % 2) (t := z / 4 % 100) (n := 1 + z / 400 % 9) (by omega) (by omega) (by omega) (by omega)) rfl hl.1 rfl (Nat.le_of_ble_eq_true rfl) ⟨Nat.le_of_ble_eq_true rfl, Nat.le_of_ble_eq_true rfl⟩ ⟨Nat.le_of_ble_eq_true rfl, Nat.le_of_ble_eq_true rfl⟩ dL_isTold_254 (fun κ τ H locs hW hR hJ hS => ?_)
          have hG : PW D cI cZ cO vdom L (wB (wB σ 903 0 ((16 + (6 * (z % 2))) + 4) (nI ((z / 4) % 100))) 903 0 ((16 + (6 * (z % 2))) + 5) (nI (1 + ((z / 400) % 9)))) (vim L) H := hW.g
          refine lv_aload_n hx hb dL_isTold_257 rfl (lv_at hl 4 rfl) ?_
          refine lv_iload hx hb dL_isTold_258 (lv_at hl 0 rfl) ?_
          refine lv_iconst (v := nI 3) hx hb dL_isTold_260 (by decide) ?_
          refine r_addN hx hb dL_isTold_261 ?_
          refine pw_ald8 X hK hG 903 fa_903 (vd_1 (by decide)) (i := (16 + (6 * (z % 2))) + 3) (N := σ.2.2.1 903 0 0) (x := σ.2.2.2 903 0 ((16 + (6 * (z % 2))) + 3)) rfl (by omega) (by omega) ((show (wB (wB σ 903 0 ((16 + (6 * (z % 2))) + 4) (nI ((z / 4) % 100))) 903 0 ((16 + (6 * (z % 2))) + 5) (nI (1 + ((z / 400) % 9)))).2.2.2 903 0 ((16 + (6 * (z % 2))) + 3) = _ from e_ne (σ := (wB σ 903 0 ((16 + (6 * (z % 2))) + 4) (nI ((z / 4) % 100)))) (F := 903) (k := 0) (i := ((16 + (6 * (z % 2))) + 5)) (j := ((16 + (6 * (z % 2))) + 3)) (v := (nI (1 + ((z / 400) % 9)))) (by omega)).trans ((show (wB σ 903 0 ((16 + (6 * (z % 2))) + 4) (nI ((z / 4) % 100))).2.2.2 903 0 ((16 + (6 * (z % 2))) + 3) = _ from e_ne (σ := σ) (F := 903) (k := 0) (i := ((16 + (6 * (z % 2))) + 4)) (j := ((16 + (6 * (z % 2))) + 3)) (v := (nI ((z / 4) % 100))) (by omega)).trans rfl)) dL_isTold_262 ?_
          refine lv_aload_n hx hb dL_isTold_263 rfl (lv_at hl 4 rfl) ?_
          refine lv_iload hx hb dL_isTold_264 (lv_at hl 0 rfl) ?_
          refine lv_iconst (v := nI 4) hx hb dL_isTold_266 (by decide) ?_
          refine r_addN hx hb dL_isTold_267 ?_
          refine pw_ald8 X hK hG 903 fa_903 (vd_1 (by decide)) (i := (16 + (6 * (z % 2))) + 4) (N := σ.2.2.1 903 0 0) (x := nI ((z / 4) % 100)) rfl (by omega) (by omega) (by simp [wN, wI, wA, wB, up3, up2, up1, e_ne (σ := (wB σ 903 0 ((16 + (6 * (z % 2))) + 4) (nI ((z / 4) % 100)))) (F := 903) (k := 0) (i := ((16 + (6 * (z % 2))) + 5)) (j := ((16 + (6 * (z % 2))) + 4)) (v := (nI (1 + ((z / 400) % 9)))) (by omega)]) dL_isTold_268 ?_
          refine lv_iadd hx hb dL_isTold_269 ?_
          refine lv_icmp_ne (tgt := 277) hx hb dL_isTold_270 (by decide) (fun c_270 => absurd rfl c_270) (fun c_270 => ?_)
          refine lv_iconst (v := nI 1) hx hb dL_isTold_273 (by decide) ?_
          refine lv_goto (tgt := 278) hx hb dL_isTold_274 (by decide) ?_
          exact vi_ret X hr hlocks (⟨κ, _, τ, hW, hR, hJ.mono (by omega)⟩) hS (rfl) (Nat.le_of_ble_eq_true rfl) (Nat.le_of_ble_eq_true rfl) rfl dL_isTold_278
      · refine lv_aload_n hx hb dL_isTold_147 rfl (lv_at hl 3 rfl) ?_
        refine lv_iconst (v := nI 2) hx hb dL_isTold_148 (by decide) ?_
        refine lv_aload_n hx hb dL_isTold_149 rfl (lv_at hl 3 rfl) ?_
        refine lv_iconst (v := nI 0) hx hb dL_isTold_150 (by decide) ?_
        refine pw_ald8 X hK hG 903 fa_903 (vd_1 (by decide)) (i := 0) (N := σ.2.2.1 903 0 0) (x := σ.2.2.2 903 0 0) rfl (by omega) (by omega) rfl dL_isTold_151 ?_
        refine lv_iconst (v := nI 1) hx hb dL_isTold_152 (by decide) ?_
        refine lv_iadd hx hb dL_isTold_153 ?_
        refine vs_8 X hK hW hS 903 fa_903 (vd_1 (by decide)) (i := 2) (N := σ.2.2.1 903 0 0) rfl (by omega) (by omega) dL_isTold_154 (fun H locs hW hS => ?_)
        have hG : PW D cI cZ cO vdom L (wB σ 903 0 2 ((σ.2.2.2 903 0 0) + (nI 1))) (vim L) H := hW.g
        refine lv_aload_n hx hb dL_isTold_155 rfl (lv_at hl 3 rfl) ?_
        refine lv_iconst (v := nI 3) hx hb dL_isTold_156 (by decide) ?_
        refine lv_iload hx hb dL_isTold_157 (lv_at hl 5 rfl) ?_
        refine lv_iconst (v := nI 4) hx hb dL_isTold_159 (by decide) ?_
        refine r_divN hx hb (by omega) (by decide) (by decide) dL_isTold_160 ?_
        refine lv_bipush (v := nI 31) hx hb dL_isTold_161 (by decide) ?_
        refine r_remN hx hb (by omega) (by decide) (by decide) dL_isTold_163 ?_
        refine vs_8 X hK hW hS 903 fa_903 (vd_1 (by decide)) (i := 3) (N := σ.2.2.1 903 0 0) rfl (by omega) (by omega) dL_isTold_164 (fun H locs hW hS => ?_)
        have hG : PW D cI cZ cO vdom L (wB (wB σ 903 0 2 ((σ.2.2.2 903 0 0) + (nI 1))) 903 0 3 (nI ((z / 4) % 31))) (vim L) H := hW.g
        refine lv_aload_n hx hb dL_isTold_165 rfl (lv_at hl 1 rfl) ?_
        refine lv_iconst (v := nI 2) hx hb dL_isTold_166 (by decide) ?_
        refine lv_aload_n hx hb dL_isTold_167 rfl (lv_at hl 3 rfl) ?_
        refine lv_iconst (v := nI 3) hx hb dL_isTold_168 (by decide) ?_
        refine pw_ald8 X hK hG 903 fa_903 (vd_1 (by decide)) (i := 3) (N := σ.2.2.1 903 0 0) (x := nI ((z / 4) % 31)) rfl (by omega) (by omega) rfl dL_isTold_169 ?_
        refine v_oq X hK hE hX hW hS yvX8_calibrate ml_L_131 [.int (nI 2), .int (nI ((z / 4) % 31))] [] (Q_calibrate hl9 hR hJ (d := z / 4 % 31) (by omega)) rfl hl.1 rfl (Nat.le_of_ble_eq_true rfl) ⟨Nat.le_of_ble_eq_true rfl, Nat.le_of_ble_eq_true rfl⟩ ⟨Nat.le_of_ble_eq_true rfl, Nat.le_of_ble_eq_true rfl⟩ dL_isTold_170 (fun κ τ H locs hW hR hJ hS => ?_)
        have hG : PW D cI cZ cO vdom L (wB (wB σ 903 0 2 ((σ.2.2.2 903 0 0) + (nI 1))) 903 0 3 (nI ((z / 4) % 31))) (vim L) H := hW.g
        refine lv_aload_n hx hb dL_isTold_173 rfl (lv_at hl 3 rfl) ?_
        refine lv_iconst (v := nI 0) hx hb dL_isTold_174 (by decide) ?_
        refine pw_ald8 X hK hG 903 fa_903 (vd_1 (by decide)) (i := 0) (N := σ.2.2.1 903 0 0) (x := σ.2.2.2 903 0 0) rfl (by omega) (by omega) rfl dL_isTold_175 ?_
        refine lv_sipush (v := nI 999) hx hb dL_isTold_176 (by decide) ?_
        refine lv_iadd hx hb dL_isTold_179 ?_
        refine lv_icmp_ne (tgt := 187) hx hb dL_isTold_180 (by decide) (fun c_180 => absurd rfl c_180) (fun c_180 => ?_)
        refine lv_iconst (v := nI 1) hx hb dL_isTold_183 (by decide) ?_
        refine lv_goto (tgt := 188) hx hb dL_isTold_184 (by decide) ?_
        exact vi_ret X hr hlocks (⟨κ, _, τ, hW, hR, hJ.mono (by omega)⟩) hS (rfl) (Nat.le_of_ble_eq_true rfl) (Nat.le_of_ble_eq_true rfl) rfl dL_isTold_188
    · refine lv_iload hx hb dL_isTold_85 (lv_at hl 5 rfl) ?_
      refine lv_iconst (v := nI 4) hx hb dL_isTold_87 (by decide) ?_
      refine r_divN hx hb (by omega) (by decide) (by decide) dL_isTold_88 ?_
      refine lv_bipush (v := nI 12) hx hb dL_isTold_89 (by decide) ?_
      refine r_remN hx hb (by omega) (by decide) (by decide) dL_isTold_91 ?_
      refine lv_istore (lv' := [(6, .int (nI ((z / 4) % 12))), (5, .int (nI (z % 4))), (0, .ref x9), (1, .ref (L 902 0)), (2, .ref (L 903 0)), (3, .int (nI w)), (4, .int (nI z))]) hx hb dL_isTold_92 hl (by decide) rfl (fun ls hl => ?_)
      refine lv_aload_n hx hb dL_isTold_94 rfl (lv_at hl 4 rfl) ?_
      refine lv_iconst (v := nI 4) hx hb dL_isTold_95 (by decide) ?_
      refine lv_iload hx hb dL_isTold_96 (lv_at hl 0 rfl) ?_
      refine r_addN hx hb dL_isTold_98 ?_
      refine pw_ald8 X hK hG 903 fa_903 (vd_1 (by decide)) (i := 4 + ((z / 4) % 12)) (N := σ.2.2.1 903 0 0) (x := σ.2.2.2 903 0 (4 + ((z / 4) % 12))) rfl (by omega) (by omega) rfl dL_isTold_99 ?_
      refine lv_istore (lv' := [(7, .int (σ.2.2.2 903 0 (4 + ((z / 4) % 12)))), (6, .int (nI ((z / 4) % 12))), (5, .int (nI (z % 4))), (0, .ref x9), (1, .ref (L 902 0)), (2, .ref (L 903 0)), (3, .int (nI w)), (4, .int (nI z))]) hx hb dL_isTold_100 hl (by decide) rfl (fun ls hl => ?_)
      refine lv_aload_n hx hb dL_isTold_102 rfl (lv_at hl 5 rfl) ?_
      refine lv_iconst (v := nI 4) hx hb dL_isTold_103 (by decide) ?_
      refine lv_iload hx hb dL_isTold_104 (lv_at hl 1 rfl) ?_
      refine r_addN hx hb dL_isTold_106 ?_
      refine lv_iload hx hb dL_isTold_107 (lv_at hl 7 rfl) ?_
      refine lv_bipush (v := nI 48) hx hb dL_isTold_109 (by decide) ?_
      refine r_divN hx hb (by omega) (by decide) (by decide) dL_isTold_111 ?_
      refine lv_bipush (v := nI 101) hx hb dL_isTold_112 (by decide) ?_
      refine r_remN hx hb (by omega) (by decide) (by decide) dL_isTold_114 ?_
      refine lv_bipush (v := nI 50) hx hb dL_isTold_115 (by decide) ?_
      refine lv_isub hx hb dL_isTold_117 ?_
      refine vs_8 X hK hW hS 903 fa_903 (vd_1 (by decide)) (i := 4 + ((z / 4) % 12)) (N := σ.2.2.1 903 0 0) rfl (by omega) (by omega) dL_isTold_118 (fun H locs hW hS => ?_)
      have hG : PW D cI cZ cO vdom L (wB σ 903 0 (4 + ((z / 4) % 12)) ((nI ((z / 48) % 101)) - (nI 50))) (vim L) H := hW.g
      refine lv_aload_n hx hb dL_isTold_119 rfl (lv_at hl 3 rfl) ?_
      refine lv_iload hx hb dL_isTold_120 (lv_at hl 1 rfl) ?_
      refine lv_aload_n hx hb dL_isTold_122 rfl (lv_at hl 5 rfl) ?_
      refine lv_iconst (v := nI 4) hx hb dL_isTold_123 (by decide) ?_
      refine lv_iload hx hb dL_isTold_124 (lv_at hl 1 rfl) ?_
      refine r_addN hx hb dL_isTold_126 ?_
      refine pw_ald8 X hK hG 903 fa_903 (vd_1 (by decide)) (i := 4 + ((z / 4) % 12)) (N := σ.2.2.1 903 0 0) (x := ((nI ((z / 48) % 101)) - (nI 50))) rfl (by omega) (by omega) (by simp [wN, wI, wA, wB, up3, up2, up1]) dL_isTold_127 ?_
      refine v_oq X hK hE hX hW hS yvX8_map ml_L_128 [.int (nI ((z / 4) % 12)), .int ((nI ((z / 48) % 101)) - (nI 50))] [] (Q_map hl9 hR hJ (x := z / 4 % 12) (c := z / 48 % 101) (by omega) (by omega)) rfl hl.1 rfl (Nat.le_of_ble_eq_true rfl) ⟨Nat.le_of_ble_eq_true rfl, Nat.le_of_ble_eq_true rfl⟩ ⟨Nat.le_of_ble_eq_true rfl, Nat.le_of_ble_eq_true rfl⟩ dL_isTold_128 (fun κ τ H locs hW hR hJ hS => ?_)
      have hG : PW D cI cZ cO vdom L (wB σ 903 0 (4 + ((z / 4) % 12)) ((nI ((z / 48) % 101)) - (nI 50))) (vim L) H := hW.g
      refine lv_iload hx hb dL_isTold_131 (lv_at hl 0 rfl) ?_
      refine lv_icmp_ne (tgt := 140) hx hb dL_isTold_133 (by decide) (fun c_133 => absurd rfl c_133) (fun c_133 => ?_)
      refine lv_iconst (v := nI 1) hx hb dL_isTold_136 (by decide) ?_
      refine lv_goto (tgt := 141) hx hb dL_isTold_137 (by decide) ?_
      exact vi_ret X hr hlocks (⟨κ, _, τ, hW, hR, hJ.mono (by omega)⟩) hS (rfl) (Nat.le_of_ble_eq_true rfl) (Nat.le_of_ble_eq_true rfl) rfl dL_isTold_141
  · refine lv_aload_n hx hb dL_isTold_10 rfl (lv_at hl 2 rfl) ?_
    refine lv_bipush (v := nI 9) hx hb dL_isTold_11 (by decide) ?_
    refine lv_iload hx hb dL_isTold_13 (lv_at hl 0 rfl) ?_
    refine r_mulN hx hb dL_isTold_15 ?_
    refine lv_iconst (v := nI 4) hx hb dL_isTold_16 (by decide) ?_
    refine r_addN hx hb dL_isTold_17 ?_
    refine r_cutV (P := fun H => Vd D cI cZ cO t0 z0 x9 L κ σ H) 32 [.int (nI (if z / 4 % 4 = 0 then 0 else 1)), .int (nI ((9 * (z % 4)) + 4)), .ref (L 902 0)] hW hS (fun H locs hW hS => ?_) (fun J_32 => ?_)
    · have hW : Vd D cI cZ cO t0 z0 x9 L κ σ H := hW
      have hG : PW D cI cZ cO vdom L σ (vim L) H := hW.g
      refine vs_8 X hK hW hS 902 fa_902 (vd_1 (by decide)) (i := (9 * (z % 4)) + 4) (N := σ.2.2.1 902 0 0) rfl (by omega) (by omega) dL_isTold_32 (fun H locs hW hS => ?_)
      have hG : PW D cI cZ cO vdom L (wB σ 902 0 ((9 * (z % 4)) + 4) (nI (if z / 4 % 4 = 0 then 0 else 1))) (vim L) H := hW.g
      refine lv_aload_n hx hb dL_isTold_33 rfl (lv_at hl 1 rfl) ?_
      refine lv_iload hx hb dL_isTold_34 (lv_at hl 0 rfl) ?_
      refine r_cutV (P := fun H => Vd D cI cZ cO t0 z0 x9 L κ (wB σ 902 0 ((9 * (z % 4)) + 4) (nI (if z / 4 % 4 = 0 then 0 else 1))) H) 50 [.int (nI (if z / 4 % 4 = 0 then 0 else 1)), .int (nI (z % 4)), .ref x9] hW hS (fun H locs hW hS => ?_) (fun J_50 => ?_)
      · have hW : Vd D cI cZ cO t0 z0 x9 L κ (wB σ 902 0 ((9 * (z % 4)) + 4) (nI (if z / 4 % 4 = 0 then 0 else 1))) H := hW
        have hG : PW D cI cZ cO vdom L (wB σ 902 0 ((9 * (z % 4)) + 4) (nI (if z / 4 % 4 = 0 then 0 else 1))) (vim L) H := hW.g
        refine v_oq X hK hE hX hW hS yvX8_load ml_L_124 [.int (nI (z % 4)), .int (nI (if z / 4 % 4 = 0 then 0 else 1))] [] (Q_load hl9 hR hJ (t := z % 4) (v := nI (if z / 4 % 4 = 0 then 0 else 1)) (by omega) n01) rfl hl.1 rfl (Nat.le_of_ble_eq_true rfl) ⟨Nat.le_of_ble_eq_true rfl, Nat.le_of_ble_eq_true rfl⟩ ⟨Nat.le_of_ble_eq_true rfl, Nat.le_of_ble_eq_true rfl⟩ dL_isTold_50 (fun κ τ H locs hW hR hJ hS => ?_)
        have hG : PW D cI cZ cO vdom L (wB σ 902 0 ((9 * (z % 4)) + 4) (nI (if z / 4 % 4 = 0 then 0 else 1))) (vim L) H := hW.g
        refine lv_aload_n hx hb dL_isTold_53 rfl (lv_at hl 2 rfl) ?_
        refine lv_iconst (v := nI 4) hx hb dL_isTold_54 (by decide) ?_
        refine pw_ald8 X hK hG 902 fa_902 (vd_1 (by decide)) (i := 4) (N := σ.2.2.1 902 0 0) (x := (wB σ 902 0 ((9 * (z % 4)) + 4) (nI (if z / 4 % 4 = 0 then 0 else 1))).2.2.2 902 0 4) rfl (by omega) (by omega) rfl dL_isTold_55 ?_
        refine lv_aload_n hx hb dL_isTold_56 rfl (lv_at hl 2 rfl) ?_
        refine lv_bipush (v := nI 13) hx hb dL_isTold_57 (by decide) ?_
        refine pw_ald8 X hK hG 902 fa_902 (vd_1 (by decide)) (i := 13) (N := σ.2.2.1 902 0 0) (x := (wB σ 902 0 ((9 * (z % 4)) + 4) (nI (if z / 4 % 4 = 0 then 0 else 1))).2.2.2 902 0 13) rfl (by omega) (by omega) rfl dL_isTold_59 ?_
        refine lv_iadd hx hb dL_isTold_60 ?_
        refine lv_aload_n hx hb dL_isTold_61 rfl (lv_at hl 2 rfl) ?_
        refine lv_bipush (v := nI 22) hx hb dL_isTold_62 (by decide) ?_
        refine pw_ald8 X hK hG 902 fa_902 (vd_1 (by decide)) (i := 22) (N := σ.2.2.1 902 0 0) (x := (wB σ 902 0 ((9 * (z % 4)) + 4) (nI (if z / 4 % 4 = 0 then 0 else 1))).2.2.2 902 0 22) rfl (by omega) (by omega) rfl dL_isTold_64 ?_
        refine lv_iadd hx hb dL_isTold_65 ?_
        refine lv_aload_n hx hb dL_isTold_66 rfl (lv_at hl 2 rfl) ?_
        refine lv_bipush (v := nI 31) hx hb dL_isTold_67 (by decide) ?_
        refine pw_ald8 X hK hG 902 fa_902 (vd_1 (by decide)) (i := 31) (N := σ.2.2.1 902 0 0) (x := (wB σ 902 0 ((9 * (z % 4)) + 4) (nI (if z / 4 % 4 = 0 then 0 else 1))).2.2.2 902 0 31) rfl (by omega) (by omega) rfl dL_isTold_69 ?_
        refine lv_iadd hx hb dL_isTold_70 ?_
        refine lv_icmp_ne (tgt := 78) hx hb dL_isTold_71 (by decide) (fun c_71 => absurd rfl c_71) (fun c_71 => ?_)
        refine lv_iconst (v := nI 1) hx hb dL_isTold_74 (by decide) ?_
        refine lv_goto (tgt := 79) hx hb dL_isTold_75 (by decide) ?_
        exact vi_ret X hr hlocks (⟨κ, _, τ, hW, hR, hJ.mono (by omega)⟩) hS (rfl) (Nat.le_of_ble_eq_true rfl) (Nat.le_of_ble_eq_true rfl) rfl dL_isTold_79
      · refine lv_iload hx hb dL_isTold_36 (lv_at hl 5 rfl) ?_
        refine lv_iconst (v := nI 4) hx hb dL_isTold_38 (by decide) ?_
        refine r_divN hx hb (by omega) (by decide) (by decide) dL_isTold_39 ?_
        refine lv_iconst (v := nI 4) hx hb dL_isTold_40 (by decide) ?_
        refine r_remN hx hb (by omega) (by decide) (by decide) dL_isTold_41 ?_
        refine r_if_leN (tgt := 49) hx hb dL_isTold_42 (by decide) (by omega) (fun c_42 => ?_) (fun c_42 => ?_)
        · refine lv_iconst (v := nI 0) hx hb dL_isTold_49 (by decide) ?_
          exact r_top (by rw [if_pos (show z / 4 % 4 = 0 by omega)]) (J_50 _ _ hW hS)
        · refine lv_iconst (v := nI 1) hx hb dL_isTold_45 (by decide) ?_
          refine lv_goto (tgt := 50) hx hb dL_isTold_46 (by decide) ?_
          exact r_top (by rw [if_neg (show ¬ z / 4 % 4 = 0 by omega)]) (J_50 _ _ hW hS)
    · refine lv_iload hx hb dL_isTold_18 (lv_at hl 5 rfl) ?_
      refine lv_iconst (v := nI 4) hx hb dL_isTold_20 (by decide) ?_
      refine r_divN hx hb (by omega) (by decide) (by decide) dL_isTold_21 ?_
      refine lv_iconst (v := nI 4) hx hb dL_isTold_22 (by decide) ?_
      refine r_remN hx hb (by omega) (by decide) (by decide) dL_isTold_23 ?_
      refine r_if_neN (tgt := 31) hx hb dL_isTold_24 (by decide) (by omega) (fun c_24 => ?_) (fun c_24 => ?_)
      · refine lv_iconst (v := nI 1) hx hb dL_isTold_31 (by decide) ?_
        exact r_top (by first | exact congrArg nI (if_pos c_24).symm | exact congrArg nI (if_neg c_24).symm) (J_32 _ _ hW hS)
      · refine lv_iconst (v := nI 0) hx hb dL_isTold_27 (by decide) ?_
        refine lv_goto (tgt := 32) hx hb dL_isTold_28 (by decide) ?_
        exact r_top (by first | exact congrArg nI (if_pos c_24).symm | exact congrArg nI (if_neg c_24).symm) (J_32 _ _ hW hS)
