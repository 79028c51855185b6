/-- the k-th of the queue, run on with the spare tools -/
def rq1 (k : Nat) (σ : St) : Int32 × St := m_runs1 (σ.2.2.1 925 0 k) (σ.2.2.1 921 0 (σ.2.2.1 925 0 k)) (σ.2.2.1 922 0 (σ.2.2.1 925 0 k)) σ
def m_sp : Nat → St → St
  | 0, σ => σ
  | n + 1, σ => wA (m_sp n σ) 909 0 n (σ.2.2.1 908 0 n)
theorem m_sp_N (σ : St) : ∀ n, (m_sp n σ).1 = σ.1
  | 0 => rfl
  | n + 1 => m_sp_N σ n
theorem m_sp_A (σ : St) (F : Nat) (h : F ≠ 909) : ∀ n, (m_sp n σ).2.2.1 F = σ.2.2.1 F
  | 0 => rfl
  | n + 1 => (show (wA (m_sp n σ) 909 0 n (σ.2.2.1 908 0 n)).2.2.1 F = (m_sp n σ).2.2.1 F from if_neg h).trans (m_sp_A σ F h n)
theorem m_sp_all {σ : St} (hs : SI σ) : ∀ n, SI (m_sp n σ) ∧ FR1 σ (m_sp n σ)
  | 0 => ⟨hs, FRm.rf⟩
  | n + 1 => ⟨SI_s (m_sp_all hs n).1 (hs.2.2.2.2.2.2.1 n), FRm.A (m_sp_all hs n).2 (by decide)⟩
def m_fs (q : Nat) : Nat → Nat → St → Nat × St
  | 0, n, σ => (n, σ)
  | f + 1, n, σ => if (rq1 n σ).1 = 0 then m_fs q f (n + 1) (rq1 n σ).2 else (n, (rq1 n σ).2)
theorem m_fs_y {q f n : Nat} {σ : St} (c : (rq1 n σ).1 = 0) : m_fs q (f + 1) n σ = m_fs q f (n + 1) (rq1 n σ).2 := if_pos c
theorem m_fs_n {q f n : Nat} {σ : St} (c : ¬ (rq1 n σ).1 = 0) : m_fs q (f + 1) n σ = (n, (rq1 n σ).2) := if_neg c
def m_foresees (σ : St) : Int32 × St := (nI (m_fs (σ.1 926 0) (σ.1 926 0) 0 (m_sp 16 (wI σ 944 0 (nI 0)))).1, (m_fs (σ.1 926 0) (σ.1 926 0) 0 (m_sp 16 (wI σ 944 0 (nI 0)))).2)
set_option maxRecDepth 100000 in
set_option maxHeartbeats 4000000 in
theorem c_X9_foresees {D : va_G} {cI cZ cO : ClassId} (l : Launch) (L : Lay) (σ : St) (ow : Nat → Prop) (hs0 : SI σ) (hP0 : PI σ) (hQ0 : QI σ) : RM D cI cZ cO rdom l yX9_foresees cX9_foresees 2 ((some FieldType.int)) 4 109 [.ref (L 999 0)] L σ ow ((m_foresees σ).1) ((m_foresees σ).2) := by
  refine rm_of rfl (Nat.le_of_ble_eq_true rfl) ?_
  intro p e s m below meth c ls X hK hG hr hlocks hl
  have X : CallFix p m c cX9_foresees 2 s _ TB RX9 := X
  have hx := X.1
  have hb := X.2.1
  have hS : va_S (AA ow s.heap.size) s.heap s.heap [] := va_S.rf
  have hA : ∀ q, ow q → AA ow s.heap.size q := fun _ h => Or.inl h
  have hl : lv_has ls 2 [(0, .ref (L 999 0))] := hl
  refine lv_aload_n hx hb dX9_foresees_0 rfl (lv_at hl 0 rfl) ?_
  refine lv_iconst (v := nI 0) hx hb dX9_foresees_1 (by decide) ?_
  refine pt_X9_107 X hK hG hS hA rd_999 dX9_foresees_2 (fun H locs hG hS => ?_)
  refine lv_iconst (v := nI 0) hx hb dX9_foresees_5 (by decide) ?_
  refine lv_istore_n (lv' := [(1, .int (nI 0)), (0, .ref (L 999 0))]) hx hb dX9_foresees_6 rfl hl (by decide) rfl (fun ls hl => ?_)
  refine r_loop (ι := Nat) (fun (k : Nat) => [(0, .ref (L 999 0)), (1, .int (nI k))]) (fun (k : Nat) => (m_sp k (wI σ 944 0 (nI 0)))) (fun (k : Nat) => 16 - k) (fun (k : Nat) => k ≤ 16) 0 (Nat.zero_le _) hG hS (lv_sub hl [1, 0] rfl) ?_
  rintro k hinv ih H locs ls hG hS hl
  have hG : PW D cI cZ cO rdom L (m_sp k (wI σ 944 0 (nI 0))) ow H := hG
  have hl : lv_has ls 2 [(0, .ref (L 999 0)), (1, .int (nI k))] := hl
  obtain hk := hinv
  refine lv_iload_n hx hb dX9_foresees_7 rfl (lv_at hl 1 rfl) ?_
  refine lv_bipush (v := nI 16) hx hb dX9_foresees_8 (by decide) ?_
  refine r_icmp_geN (tgt := 31) hx hb dX9_foresees_10 (by decide) (by omega) (by decide) (fun c_10 => ?_) (fun c_10 => ?_)
  · obtain rfl : k = 16 := by omega
    refine lv_iconst (v := nI 0) hx hb dX9_foresees_31 (by decide) ?_
    have hPs : PI (m_sp 16 (wI σ 944 0 (nI 0))) := by
      have h := (m_sp_all (σ := (wI σ 944 0 (nI 0))) hs0 16).2
      unfold PI at hP0 ⊢
      rw [h.1 904 (by decide), h.2.2.1 903 (by decide), h.2.2.2 902 (by decide)]
      exact hP0
    refine lv_istore_n (lv' := [(1, .int (nI 0)), (0, .ref (L 999 0))]) hx hb dX9_foresees_32 rfl hl (by decide) rfl (fun ls hl => ?_)
    refine r_loop (ι := St × Nat) (fun (⟨σ9, k⟩ : St × Nat) => [(0, .ref (L 999 0)), (1, .int (nI k))]) (fun (⟨σ9, k⟩ : St × Nat) => σ9) (fun (⟨σ9, k⟩ : St × Nat) => σ.1 926 0 - k) (fun (⟨σ9, k⟩ : St × Nat) => m_fs (σ.1 926 0) (σ.1 926 0) 0 (m_sp 16 (wI σ 944 0 (nI 0))) = m_fs (σ.1 926 0) (σ.1 926 0 - k) k σ9 ∧ k ≤ σ.1 926 0 ∧ FR1 (wI σ 944 0 (nI 0)) σ9 ∧ SI σ9 ∧ PI σ9) ⟨(m_sp 16 (wI σ 944 0 (nI 0))), 0⟩ (⟨rfl, Nat.zero_le _, (m_sp_all (σ := (wI σ 944 0 (nI 0))) hs0 16).2, (m_sp_all (σ := (wI σ 944 0 (nI 0))) hs0 16).1, hPs⟩) hG hS (lv_sub hl [1, 0] rfl) ?_
    rintro ⟨σ9, k⟩ hinv ih H locs ls hG hS hl
    have hG : PW D cI cZ cO rdom L σ9 ow H := hG
    have hl : lv_has ls 2 [(0, .ref (L 999 0)), (1, .int (nI k))] := hl
    obtain ⟨hv, hk, hfr, hs9, hP9⟩ := hinv
    refine lv_iload_n hx hb dX9_foresees_33 rfl (lv_at hl 1 rfl) ?_
    refine lv_aload_n hx hb dX9_foresees_34 rfl (lv_at hl 0 rfl) ?_
    refine gt_X9_138 X hK hG rd_999 (x := σ.1 926 0) ((show σ9.1 926 0 = _ from by rw [(hfr).1 926 (by decide)] <;> rfl).trans rfl) dX9_foresees_35 ?_
    refine r_icmp_geN (tgt := 83) hx hb dX9_foresees_38 (by decide) (by have := hQ0.1; omega) (by have := hQ0.1; omega) (fun c_38 => ?_) (fun c_38 => ?_)
    · have hE : m_fs (σ.1 926 0) (σ.1 926 0) 0 (m_sp 16 (wI σ 944 0 (nI 0))) = (k, σ9) := hv.trans (by first | (rw [show σ.1 926 0 - k = 0 by omega]; rfl) | (rw [show σ.1 926 0 - k = (σ.1 926 0 - (k + 1)) + 1 by omega]; exact m_fs_n c_74))
      refine lv_iload_n hx hb dX9_foresees_83 rfl (lv_at hl 1 rfl) ?_
      exact rm_ret hx hb hr hlocks hG hS (by unfold m_foresees; rw [hE]) (by unfold m_foresees; rw [hE]) rfl dX9_foresees_84
    · have hqk := (QI.fr (σ := (wI σ 944 0 (nI 0))) hQ0 hfr).2 k (by rw [hfr.1 926 (by decide)]; exact c_38)
      refine lv_aload_n hx hb dX9_foresees_41 rfl (lv_at hl 0 rfl) ?_
      refine lv_aload_n hx hb dX9_foresees_42 rfl (lv_at hl 0 rfl) ?_
      refine gt_X9_71 X hK hG rd_999 dX9_foresees_43 ?_
      refine lv_iload_n hx hb dX9_foresees_46 rfl (lv_at hl 1 rfl) ?_
      refine al_925 X hK hG rd_925 (i := k) (x := σ9.2.2.1 925 0 k) (by have := hQ0.1; omega) rfl dX9_foresees_47 ?_
      refine lv_aload_n hx hb dX9_foresees_48 rfl (lv_at hl 0 rfl) ?_
      refine gt_X9_62 X hK hG rd_999 dX9_foresees_49 ?_
      refine lv_aload_n hx hb dX9_foresees_52 rfl (lv_at hl 0 rfl) ?_
      refine gt_X9_71 X hK hG rd_999 dX9_foresees_53 ?_
      refine lv_iload_n hx hb dX9_foresees_56 rfl (lv_at hl 1 rfl) ?_
      refine al_925 X hK hG rd_925 (i := k) (x := σ9.2.2.1 925 0 k) (by have := hQ0.1; omega) rfl dX9_foresees_57 ?_
      refine al_921 X hK hG rd_921 (i := σ9.2.2.1 925 0 k) (x := σ9.2.2.1 921 0 (σ9.2.2.1 925 0 k)) (hqk.1) rfl dX9_foresees_58 ?_
      refine lv_aload_n hx hb dX9_foresees_59 rfl (lv_at hl 0 rfl) ?_
      refine gt_X9_65 X hK hG rd_999 dX9_foresees_60 ?_
      refine lv_aload_n hx hb dX9_foresees_63 rfl (lv_at hl 0 rfl) ?_
      refine gt_X9_71 X hK hG rd_999 dX9_foresees_64 ?_
      refine lv_iload_n hx hb dX9_foresees_67 rfl (lv_at hl 1 rfl) ?_
      refine al_925 X hK hG rd_925 (i := k) (x := σ9.2.2.1 925 0 k) (by have := hQ0.1; omega) rfl dX9_foresees_68 ?_
      refine al_922 X hK hG rd_922 (i := σ9.2.2.1 925 0 k) (x := σ9.2.2.1 922 0 (σ9.2.2.1 925 0 k)) (hqk.1) rfl dX9_foresees_69 ?_
      refine lv_iconst (v := nI 1) hx hb dX9_foresees_70 (by decide) ?_
      refine rm_callV X hK hG hS yvX9_runs ml_X9_193 kX9 rfl rd_999 [.int (nI (σ9.2.2.1 925 0 k)), .int (nI (σ9.2.2.1 921 0 (σ9.2.2.1 925 0 k))), .int (nI (σ9.2.2.1 922 0 (σ9.2.2.1 925 0 k))), .int (nI 1)] [] (c_X9_runs1 l L σ9 ow (σ9.2.2.1 925 0 k) (σ9.2.2.1 921 0 (σ9.2.2.1 925 0 k)) (σ9.2.2.1 922 0 (σ9.2.2.1 925 0 k)) (hqk.1) (hqk.2.2) (hqk.2.1) (hs9) (hP9)) rfl hl.1 rfl (Nat.le_of_ble_eq_true rfl) ⟨Nat.le_of_ble_eq_true rfl, Nat.le_of_ble_eq_true rfl⟩ ⟨Nat.zero_le _, Nat.zero_le _⟩ dX9_foresees_71 (fun H locs hG hS => ?_)
      refine lv_if_ne (tgt := 83) hx hb dX9_foresees_74 (by decide) (fun c_74 => ?_) (fun c_74 => ?_)
      · have hE : m_fs (σ.1 926 0) (σ.1 926 0) 0 (m_sp 16 (wI σ 944 0 (nI 0))) = (k, (m_runs1 (σ9.2.2.1 925 0 k) (σ9.2.2.1 921 0 (σ9.2.2.1 925 0 k)) (σ9.2.2.1 922 0 (σ9.2.2.1 925 0 k)) σ9).2) := hv.trans (by first | (rw [show σ.1 926 0 - k = 0 by omega]; rfl) | (rw [show σ.1 926 0 - k = (σ.1 926 0 - (k + 1)) + 1 by omega]; exact m_fs_n c_74))
        refine lv_iload_n hx hb dX9_foresees_83 rfl (lv_at hl 1 rfl) ?_
        exact rm_ret hx hb hr hlocks hG hS (by unfold m_foresees; rw [hE]) (by unfold m_foresees; rw [hE]) rfl dX9_foresees_84
      · refine r_iincN (b := 1) (lv' := [(1, .int (nI (k + 1))), (0, .ref (L 999 0))]) hx hb dX9_foresees_77 hl (k := 1) rfl (by decide) (by decide) rfl (fun ls hl => ?_)
        refine lv_goto (tgt := 33) hx hb dX9_foresees_80 (by decide) ?_
        exact ih ⟨(rq1 k σ9).2, k + 1⟩ (by show _ - (k + 1) < _ - k; omega) (⟨hv.trans (by rw [show σ.1 926 0 - k = (σ.1 926 0 - (k + 1)) + 1 by omega]; exact m_fs_y c_74), by show k + 1 ≤ _; omega, hfr.tr (FR_runs1 _ _ _ _), (runs_all1 hs9 hP9 hqk.2.1).1, PI_runs1 hP9⟩) H locs ls hG hS (lv_sub hl [1, 0] rfl)
  · refine lv_aload_n hx hb dX9_foresees_13 rfl (lv_at hl 0 rfl) ?_
    refine gt_X9_28 X hK hG rd_999 dX9_foresees_14 ?_
    refine lv_iload_n hx hb dX9_foresees_17 rfl (lv_at hl 1 rfl) ?_
    refine lv_aload_n hx hb dX9_foresees_18 rfl (lv_at hl 0 rfl) ?_
    refine gt_X9_25 X hK hG rd_999 dX9_foresees_19 ?_
    refine lv_iload_n hx hb dX9_foresees_22 rfl (lv_at hl 1 rfl) ?_
    refine al_908 X hK hG rd_908 (i := k) (x := σ.2.2.1 908 0 k) (by omega) ((show (m_sp k (wI σ 944 0 (nI 0))).2.2.1 908 0 k = _ from by rw [m_sp_A (wI σ 944 0 (nI 0)) 908 (by decide)] <;> rfl).trans rfl) dX9_foresees_23 ?_
    refine as_909 X hK hG hS hA rd_909 (i := k) (by omega) dX9_foresees_24 (fun H locs hG hS => ?_)
    refine r_iincN (b := 1) (lv' := [(1, .int (nI (k + 1))), (0, .ref (L 999 0))]) hx hb dX9_foresees_25 hl (k := 1) rfl (by decide) (by decide) rfl (fun ls hl => ?_)
    refine lv_goto (tgt := 7) hx hb dX9_foresees_28 (by decide) ?_
    exact ih (k + 1) (by show 16 - (k + 1) < 16 - k; omega) (by show k + 1 ≤ 16; omega) H locs ls hG hS (lv_sub hl [1, 0] rfl)
def m_bk (P : Nat) : Nat → St → St
  | 0, σ => σ
  | n + 1, σ => wB (m_bk P n σ) 915 0 (144 * P + n) ((m_bk P n σ).2.2.2 935 0 n)
def m_shf : Nat → St → St
  | 0, σ => σ
  | n + 1, σ => wA (m_shf n σ) 925 0 n ((m_shf n σ).2.2.1 925 0 (n + 1))
theorem m_bk_N (P : Nat) (σ : St) : ∀ n, (m_bk P n σ).1 = σ.1
  | 0 => rfl
  | n + 1 => m_bk_N P σ n
theorem m_bk_A (P : Nat) (σ : St) : ∀ n, (m_bk P n σ).2.2.1 = σ.2.2.1
  | 0 => rfl
  | n + 1 => m_bk_A P σ n
theorem m_bk_fr (P : Nat) (σ : St) {lN lI lA lB : List Nat} (h : 915 ∈ lB) : ∀ n, FRm lN lI lA lB σ (m_bk P n σ)
  | 0 => FRm.rf
  | n + 1 => FRm.B (m_bk_fr P σ h n) h
theorem m_shf_N (σ : St) : ∀ n, (m_shf n σ).1 = σ.1
  | 0 => rfl
  | n + 1 => m_shf_N σ n
theorem m_shf_fr (σ : St) {lN lI lA lB : List Nat} (h : 925 ∈ lA) : ∀ n, FRm lN lI lA lB σ (m_shf n σ)
  | 0 => FRm.rf
  | n + 1 => FRm.A (m_shf_fr σ h n) h
theorem m_shf_q (σ : St) : ∀ (n k : Nat), (m_shf n σ).2.2.1 925 0 k = if k < n then σ.2.2.1 925 0 (k + 1) else σ.2.2.1 925 0 k
  | 0, k => by rw [if_neg (Nat.not_lt_zero _)]; rfl
  | n + 1, k => by
    have h := m_shf_q σ n
    show (wA (m_shf n σ) 925 0 n ((m_shf n σ).2.2.1 925 0 (n + 1))).2.2.1 925 0 k = _
    rw [wA_s]
    by_cases e : k = n
    · subst e
      rw [up1_s, h, if_neg (by omega), if_pos (by omega)]
    · rw [up1_n e, h]
      by_cases e2 : k < n
      · rw [if_pos e2, if_pos (by omega)]
      · rw [if_neg e2, if_neg (by omega)]
def m_n1 (σ : St) : Int32 × St := ((m_runs2 (σ.2.2.1 925 0 0) (σ.2.2.1 921 0 (σ.2.2.1 925 0 0)) (σ.2.2.1 922 0 (σ.2.2.1 925 0 0)) σ).1, m_bk (σ.2.2.1 925 0 0) 144 (wA (m_runs2 (σ.2.2.1 925 0 0) (σ.2.2.1 921 0 (σ.2.2.1 925 0 0)) (σ.2.2.1 922 0 (σ.2.2.1 925 0 0)) σ).2 922 0 (σ.2.2.1 925 0 0) ((m_runs2 (σ.2.2.1 925 0 0) (σ.2.2.1 921 0 (σ.2.2.1 925 0 0)) (σ.2.2.1 922 0 (σ.2.2.1 925 0 0)) σ).2.1 943 0)))
def m_n2 (P Q : Nat) (σ : St) : St := m_shf (Q - 1) (wN (wB σ 920 0 P (nI 2)) 926 0 (Q - 1))
def m_ngl : Nat → Nat → St → Nat × St
  | 0, n, σ => (n, σ)
  | f + 1, n, σ => if (m_n1 σ).1 = 0 then (if σ.1 926 0 - 1 = 0 then (n + 1, m_n2 (σ.2.2.1 925 0 0) (σ.1 926 0) (m_n1 σ).2) else m_ngl f (n + 1) (m_n2 (σ.2.2.1 925 0 0) (σ.1 926 0) (m_n1 σ).2)) else (n, (m_n1 σ).2)
theorem ngl_y {f n : Nat} {σ : St} (c : (m_n1 σ).1 = 0) : m_ngl (f + 1) n σ = (if (if σ.1 926 0 - 1 = 0 then 0 else 1) = 0 then (n + 1, m_n2 (σ.2.2.1 925 0 0) (σ.1 926 0) (m_n1 σ).2) else m_ngl f (n + 1) (m_n2 (σ.2.2.1 925 0 0) (σ.1 926 0) (m_n1 σ).2)) := by
  unfold m_ngl
  rw [if_pos c]
  by_cases e : σ.1 926 0 - 1 = 0
  · rw [if_pos e, if_pos e, if_pos rfl]
  · rw [if_neg e, if_neg e, if_neg (by decide)]
    cases f <;> rfl
theorem ngl_n {f n : Nat} {σ : St} (c : ¬ (m_n1 σ).1 = 0) : m_ngl (f + 1) n σ = (n, (m_n1 σ).2) := if_neg c
def m_night (σ : St) : Int32 × St := (nI (if (if σ.1 926 0 = 0 then 0 else 1) = 0 then (0, wI σ 944 0 (nI 0)) else m_ngl 6 0 (wI σ 944 0 (nI 0))).1, (if (if σ.1 926 0 = 0 then 0 else 1) = 0 then (0, wI σ 944 0 (nI 0)) else m_ngl 6 0 (wI σ 944 0 (nI 0))).2)
theorem n1_all {σ : St} (hs : SI σ) (hP : PI σ) (hQ : QI σ) (h0 : 0 < σ.1 926 0) : SI (m_n1 σ).2 ∧ PI (m_n1 σ).2 ∧ QI (m_n1 σ).2 ∧ (m_n1 σ).2.1 926 = σ.1 926 ∧ (m_n1 σ).2.2.2.1 925 = σ.2.2.1 925 := by
  have hq := hQ.2 0 h0
  have h1 := runs_all2 (p := σ.2.2.1 925 0 0) (fr := σ.2.2.1 922 0 (σ.2.2.1 925 0 0)) hs hP hq.2.1
  have h2 := PI_runs2 (p := σ.2.2.1 925 0 0) (pr := σ.2.2.1 921 0 (σ.2.2.1 925 0 0)) (fr := σ.2.2.1 922 0 (σ.2.2.1 925 0 0)) hP
  have h3 := FR_runs2 (σ.2.2.1 925 0 0) (σ.2.2.1 921 0 (σ.2.2.1 925 0 0)) (σ.2.2.1 922 0 (σ.2.2.1 925 0 0)) σ
  unfold m_n1
  show SI (m_bk _ 144 _) ∧ PI (m_bk _ 144 _) ∧ QI (m_bk _ 144 _) ∧ (m_bk _ 144 _).1 926 = _ ∧ (m_bk _ 144 _).2.2.1 925 = _
  generalize (m_runs2 (σ.2.2.1 925 0 0) (σ.2.2.1 921 0 (σ.2.2.1 925 0 0)) (σ.2.2.1 922 0 (σ.2.2.1 925 0 0)) σ).2 = X at h1 h2 h3 ⊢
  have f1 : FRm [] [] [922] [915] X (m_bk (σ.2.2.1 925 0 0) 144 (wA X 922 0 (σ.2.2.1 925 0 0) (X.1 943 0))) := (FRm.A FRm.rf (by decide)).tr (m_bk_fr _ _ (by decide) 144)
  have f2 : (m_bk (σ.2.2.1 925 0 0) 144 (wA X 922 0 (σ.2.2.1 925 0 0) (X.1 943 0))).2.2.1 922 0 = up1 (X.2.2.1 922 0) (σ.2.2.1 925 0 0) (X.1 943 0) := by rw [m_bk_A, wA_s]
  generalize m_bk (σ.2.2.1 925 0 0) 144 (wA X 922 0 (σ.2.2.1 925 0 0) (X.1 943 0)) = Y at f1 f2 ⊢
  refine ⟨SI_w h1.1 (by rw [f1.2.2.1 937 (by decide)]) (by rw [f1.2.1 942 (by decide)]) (by rw [f1.1 914 (by decide)]) (by rw [f1.2.2.1 907 (by decide)]) (by rw [f1.2.2.1 908 (by decide)]; exact h1.1.2.2.2.2.2.2.1) (by rw [f1.2.2.1 909 (by decide)]; exact h1.1.2.2.2.2.2.2.2.1) (by rw [f1.1 901 (by decide)]; exact h1.1.2.2.2.2.2.2.2.2), ?_, ?_, ?_, ?_⟩
  · unfold PI at h2 ⊢
    rw [f1.1 904 (by decide), f1.2.2.1 903 (by decide), f1.2.2.2 902 (by decide)]
    exact h2
  · have hQX := hQ.fr h3
    unfold QI at hQX ⊢
    rw [f1.1 926 (by decide), f1.1 904 (by decide), f1.2.2.1 925 (by decide), f1.2.2.1 921 (by decide)]
    refine ⟨hQX.1, fun k hk => ⟨(hQX.2 k hk).1, (hQX.2 k hk).2.1, ?_⟩⟩
    rw [f2]
    unfold up1
    split
    · omega
    · exact (hQX.2 k hk).2.2
  · rw [f1.1 926 (by decide), h3.1 926 (by decide)]
  · rw [f1.2.2.1 925 (by decide), h3.2.2.1 925 (by decide)]
theorem n2_all {P Q : Nat} {σ : St} (hs : SI σ) (hP : PI σ) (hQ : QI σ) (e : σ.1 926 0 = Q) : SI (m_n2 P Q σ) ∧ PI (m_n2 P Q σ) ∧ QI (m_n2 P Q σ) ∧ (m_n2 P Q σ).1 926 0 = Q - 1 := by
  have f1 : FRm [926] [] [925] [920] σ (m_n2 P Q σ) := (FRm.N (FRm.B FRm.rf (by decide)) (by decide)).tr (m_shf_fr _ (by decide) _)
  have f2 : (m_n2 P Q σ).1 926 0 = Q - 1 := by
    unfold m_n2
    rw [m_shf_N]
    rfl
  have f3 : ∀ k, (m_n2 P Q σ).2.2.1 925 0 k = if k < Q - 1 then σ.2.2.1 925 0 (k + 1) else σ.2.2.1 925 0 k := fun k => by
    unfold m_n2
    rw [m_shf_q]
    rfl
  generalize m_n2 P Q σ = Y at f1 f2 f3 ⊢
  refine ⟨SI_w hs (by rw [f1.2.2.1 937 (by decide)]) (by rw [f1.2.1 942 (by decide)]) (by rw [f1.1 914 (by decide)]) (by rw [f1.2.2.1 907 (by decide)]) (by rw [f1.2.2.1 908 (by decide)]; exact hs.2.2.2.2.2.2.1) (by rw [f1.2.2.1 909 (by decide)]; exact hs.2.2.2.2.2.2.2.1) (by rw [f1.1 901 (by decide)]; exact hs.2.2.2.2.2.2.2.2), ?_, ?_, f2⟩
  · unfold PI at hP ⊢
    rw [f1.1 904 (by decide), f1.2.2.1 903 (by decide), f1.2.2.2 902 (by decide)]
    exact hP
  · unfold QI at hQ ⊢
    rw [f2, f1.1 904 (by decide), f1.2.2.1 921 (by decide), f1.2.2.1 922 (by decide)]
    refine ⟨by omega, fun k hk => ?_⟩
    rw [f3, if_pos hk]
    exact hQ.2 (k + 1) (by omega)
theorem n1_f (σ9 : St) : (m_n1 σ9).1 = (m_runs2 (σ9.2.2.1 925 0 0) (σ9.2.2.1 921 0 (σ9.2.2.1 925 0 0)) (σ9.2.2.1 922 0 (σ9.2.2.1 925 0 0)) σ9).1 := by
  unfold m_n1
  rfl
theorem n1_s (σ9 : St) : (m_n1 σ9).2 = m_bk (σ9.2.2.1 925 0 0) 144 (wA (m_runs2 (σ9.2.2.1 925 0 0) (σ9.2.2.1 921 0 (σ9.2.2.1 925 0 0)) (σ9.2.2.1 922 0 (σ9.2.2.1 925 0 0)) σ9).2 922 0 (σ9.2.2.1 925 0 0) ((m_runs2 (σ9.2.2.1 925 0 0) (σ9.2.2.1 921 0 (σ9.2.2.1 925 0 0)) (σ9.2.2.1 922 0 (σ9.2.2.1 925 0 0)) σ9).2.1 943 0)) := by
  unfold m_n1
  rfl
theorem n2_s (P Q : Nat) (σ : St) : m_n2 P Q σ = m_shf (Q - 1) (wN (wB σ 920 0 P (nI 2)) 926 0 (Q - 1)) := rfl
set_option maxRecDepth 100000 in
set_option maxHeartbeats 4000000 in
theorem c_X9_night {D : va_G} {cI cZ cO : ClassId} (l : Launch) (L : Lay) (σ : St) (ow : Nat → Prop) (hs0 : SI σ) (hP0 : PI σ) (hQ0 : QI σ) : RM D cI cZ cO rdom l yX9_night cX9_night 6 ((some FieldType.int)) 4 109 [.ref (L 999 0)] L σ ow ((m_night σ).1) ((m_night σ).2) := by
  refine rm_of rfl (Nat.le_of_ble_eq_true rfl) ?_
  intro p e s m below meth c ls X hK hG hr hlocks hl
  have X : CallFix p m c cX9_night 6 s _ TB RX9 := X
  have hx := X.1
  have hb := X.2.1
  have hS : va_S (AA ow s.heap.size) s.heap s.heap [] := va_S.rf
  have hA : ∀ q, ow q → AA ow s.heap.size q := fun _ h => Or.inl h
  have hl : lv_has ls 6 [(0, .ref (L 999 0))] := hl
  refine lv_aload_n hx hb dX9_night_0 rfl (lv_at hl 0 rfl) ?_
  refine lv_iconst (v := nI 0) hx hb dX9_night_1 (by decide) ?_
  refine pt_X9_107 X hK hG hS hA rd_999 dX9_night_2 (fun H locs hG hS => ?_)
  refine lv_iconst (v := nI 0) hx hb dX9_night_5 (by decide) ?_
  refine lv_istore_n (lv' := [(1, .int (nI 0)), (0, .ref (L 999 0))]) hx hb dX9_night_6 rfl hl (by decide) rfl (fun ls hl => ?_)
  refine r_cutH 19 [.int (nI (if σ.1 926 0 = 0 then 0 else 1))] hG hS (fun H locs hG hS => ?_) (fun J_19 => ?_)
  · refine lv_istore_n (lv' := [(2, .int (nI (if σ.1 926 0 = 0 then 0 else 1))), (1, .int (nI 0)), (0, .ref (L 999 0))]) hx hb dX9_night_19 rfl hl (by decide) rfl (fun ls hl => ?_)
    refine r_loop (ι := Nat × Nat × Nat × St) (fun (⟨f, n, w, σ9⟩ : Nat × Nat × Nat × St) => [(0, .ref (L 999 0)), (1, .int (nI n)), (2, .int (nI w))]) (fun (⟨f, n, w, σ9⟩ : Nat × Nat × Nat × St) => σ9) (fun (⟨f, n, w, σ9⟩ : Nat × Nat × Nat × St) => f) (fun (⟨f, n, w, σ9⟩ : Nat × Nat × Nat × St) => (if (if σ.1 926 0 = 0 then 0 else 1) = 0 then (0, (wI σ 944 0 (nI 0))) else m_ngl 6 0 (wI σ 944 0 (nI 0))) = (if w = 0 then (n, σ9) else m_ngl f n σ9) ∧ SI σ9 ∧ PI σ9 ∧ QI σ9 ∧ (¬ w = 0 → 0 < σ9.1 926 0 ∧ σ9.1 926 0 ≤ f) ∧ w ≤ 1) ⟨6, 0, (if σ.1 926 0 = 0 then 0 else 1), (wI σ 944 0 (nI 0))⟩ (⟨rfl, hs0, hP0, hQ0, fun z => ⟨Nat.pos_of_ne_zero (fun e => z (if_pos e)), hQ0.1⟩, by split <;> omega⟩) hG hS (lv_sub hl [2, 1, 0] rfl) ?_
    rintro ⟨f, n, w, σ9⟩ hinv ih H locs ls hG hS hl
    have hG : PW D cI cZ cO rdom L σ9 ow H := hG
    have hl : lv_has ls 6 [(0, .ref (L 999 0)), (1, .int (nI n)), (2, .int (nI w))] := hl
    obtain ⟨hv, hs9, hP9, hQ9, hw, hw1⟩ := hinv
    refine lv_iload_n hx hb dX9_night_20 rfl (lv_at hl 2 rfl) ?_
    refine r_if_eqN (tgt := 183) hx hb dX9_night_21 (by decide) (by omega) (fun c_21 => ?_) (fun c_21 => ?_)
    · have hE : (if (if σ.1 926 0 = 0 then 0 else 1) = 0 then (0, (wI σ 944 0 (nI 0))) else m_ngl 6 0 (wI σ 944 0 (nI 0))) = (n, σ9) := hv.trans (if_pos c_21)
      refine lv_iload_n hx hb dX9_night_183 rfl (lv_at hl 1 rfl) ?_
      exact rm_ret hx hb hr hlocks hG hS (by unfold m_night; rw [hE]) (by unfold m_night; rw [hE]) rfl dX9_night_184
    · have ih0 := ih
      have h0 := (hw c_21).1
      have hf := (hw c_21).2
      obtain ⟨g, rfl⟩ : ∃ g, f = g + 1 := ⟨f - 1, by omega⟩
      have hq := hQ9.2 0 h0
      refine lv_aload_n hx hb dX9_night_24 rfl (lv_at hl 0 rfl) ?_
      refine gt_X9_71 X hK hG rd_999 dX9_night_25 ?_
      refine lv_iconst (v := nI 0) hx hb dX9_night_28 (by decide) ?_
      refine al_925 X hK hG rd_925 (i := 0) (x := σ9.2.2.1 925 0 0) (by omega) rfl dX9_night_29 ?_
      refine lv_istore_n (lv' := [(3, .int (nI (σ9.2.2.1 925 0 0))), (0, .ref (L 999 0)), (1, .int (nI n)), (2, .int (nI w))]) hx hb dX9_night_30 rfl hl (by decide) rfl (fun ls hl => ?_)
      refine lv_aload_n hx hb dX9_night_31 rfl (lv_at hl 1 rfl) ?_
      refine lv_iload_n hx hb dX9_night_32 rfl (lv_at hl 0 rfl) ?_
      refine lv_aload_n hx hb dX9_night_33 rfl (lv_at hl 1 rfl) ?_
      refine gt_X9_62 X hK hG rd_999 dX9_night_34 ?_
      refine lv_iload_n hx hb dX9_night_37 rfl (lv_at hl 0 rfl) ?_
      refine al_921 X hK hG rd_921 (i := σ9.2.2.1 925 0 0) (x := σ9.2.2.1 921 0 (σ9.2.2.1 925 0 0)) (hq.1) rfl dX9_night_38 ?_
      refine lv_aload_n hx hb dX9_night_39 rfl (lv_at hl 1 rfl) ?_
      refine gt_X9_65 X hK hG rd_999 dX9_night_40 ?_
      refine lv_iload_n hx hb dX9_night_43 rfl (lv_at hl 0 rfl) ?_
      refine al_922 X hK hG rd_922 (i := σ9.2.2.1 925 0 0) (x := σ9.2.2.1 922 0 (σ9.2.2.1 925 0 0)) (hq.1) rfl dX9_night_44 ?_
      refine lv_iconst (v := nI 2) hx hb dX9_night_45 (by decide) ?_
      refine rm_callV X hK hG hS yvX9_runs ml_X9_193 kX9 rfl rd_999 [.int (nI (σ9.2.2.1 925 0 0)), .int (nI (σ9.2.2.1 921 0 (σ9.2.2.1 925 0 0))), .int (nI (σ9.2.2.1 922 0 (σ9.2.2.1 925 0 0))), .int (nI 2)] [] (c_X9_runs2 l L σ9 ow (σ9.2.2.1 925 0 0) (σ9.2.2.1 921 0 (σ9.2.2.1 925 0 0)) (σ9.2.2.1 922 0 (σ9.2.2.1 925 0 0)) (hq.1) (hq.2.2) (hq.2.1) (hs9) (hP9)) rfl hl.1 rfl (Nat.le_of_ble_eq_true rfl) ⟨Nat.le_of_ble_eq_true rfl, Nat.le_of_ble_eq_true rfl⟩ ⟨Nat.zero_le _, Nat.zero_le _⟩ dX9_night_46 (fun H locs hG hS => ?_)
      refine lv_istore (lv' := [(4, .int ((m_runs2 (σ9.2.2.1 925 0 0) (σ9.2.2.1 921 0 (σ9.2.2.1 925 0 0)) (σ9.2.2.1 922 0 (σ9.2.2.1 925 0 0)) σ9).1)), (3, .int (nI (σ9.2.2.1 925 0 0))), (0, .ref (L 999 0)), (1, .int (nI n)), (2, .int (nI w))]) hx hb dX9_night_49 hl (by decide) rfl (fun ls hl => ?_)
      refine lv_aload_n hx hb dX9_night_51 rfl (lv_at hl 2 rfl) ?_
      refine gt_X9_65 X hK hG rd_999 dX9_night_52 ?_
      refine lv_iload_n hx hb dX9_night_55 rfl (lv_at hl 1 rfl) ?_
      refine lv_aload_n hx hb dX9_night_56 rfl (lv_at hl 2 rfl) ?_
      refine gt_X9_161 X hK hG rd_999 (x := ((m_runs2 (σ9.2.2.1 925 0 0) (σ9.2.2.1 921 0 (σ9.2.2.1 925 0 0)) (σ9.2.2.1 922 0 (σ9.2.2.1 925 0 0)) σ9).2).1 943 0) rfl dX9_night_57 ?_
      refine as_922 X hK hG hS hA rd_922 (i := σ9.2.2.1 925 0 0) (hq.1) dX9_night_60 (fun H locs hG hS => ?_)
      refine lv_iconst (v := nI 0) hx hb dX9_night_61 (by decide) ?_
      refine lv_istore (lv' := [(5, .int (nI 0)), (4, .int ((m_runs2 (σ9.2.2.1 925 0 0) (σ9.2.2.1 921 0 (σ9.2.2.1 925 0 0)) (σ9.2.2.1 922 0 (σ9.2.2.1 925 0 0)) σ9).1)), (3, .int (nI (σ9.2.2.1 925 0 0))), (0, .ref (L 999 0)), (1, .int (nI n)), (2, .int (nI w))]) hx hb dX9_night_62 hl (by decide) rfl (fun ls hl => ?_)
      refine r_loop (ι := Nat) (fun (k : Nat) => [(0, .ref (L 999 0)), (1, .int (nI n)), (2, .int (nI w)), (3, .int (nI (σ9.2.2.1 925 0 0))), (4, .int ((m_runs2 (σ9.2.2.1 925 0 0) (σ9.2.2.1 921 0 (σ9.2.2.1 925 0 0)) (σ9.2.2.1 922 0 (σ9.2.2.1 925 0 0)) σ9).1)), (5, .int (nI k))]) (fun (k : Nat) => (m_bk (σ9.2.2.1 925 0 0) k (wA (m_runs2 (σ9.2.2.1 925 0 0) (σ9.2.2.1 921 0 (σ9.2.2.1 925 0 0)) (σ9.2.2.1 922 0 (σ9.2.2.1 925 0 0)) σ9).2 922 0 (σ9.2.2.1 925 0 0) (((m_runs2 (σ9.2.2.1 925 0 0) (σ9.2.2.1 921 0 (σ9.2.2.1 925 0 0)) (σ9.2.2.1 922 0 (σ9.2.2.1 925 0 0)) σ9).2).1 943 0)))) (fun (k : Nat) => 144 - k) (fun (k : Nat) => k ≤ 144) 0 (Nat.zero_le _) hG hS (lv_sub hl [3, 4, 5, 2, 1, 0] rfl) ?_
      rintro k hinv ih H locs ls hG hS hl
      have hG : PW D cI cZ cO rdom L (m_bk (σ9.2.2.1 925 0 0) k (wA (m_runs2 (σ9.2.2.1 925 0 0) (σ9.2.2.1 921 0 (σ9.2.2.1 925 0 0)) (σ9.2.2.1 922 0 (σ9.2.2.1 925 0 0)) σ9).2 922 0 (σ9.2.2.1 925 0 0) (((m_runs2 (σ9.2.2.1 925 0 0) (σ9.2.2.1 921 0 (σ9.2.2.1 925 0 0)) (σ9.2.2.1 922 0 (σ9.2.2.1 925 0 0)) σ9).2).1 943 0))) ow H := hG
      have hl : lv_has ls 6 [(0, .ref (L 999 0)), (1, .int (nI n)), (2, .int (nI w)), (3, .int (nI (σ9.2.2.1 925 0 0))), (4, .int ((m_runs2 (σ9.2.2.1 925 0 0) (σ9.2.2.1 921 0 (σ9.2.2.1 925 0 0)) (σ9.2.2.1 922 0 (σ9.2.2.1 925 0 0)) σ9).1)), (5, .int (nI k))] := hl
      obtain hk := hinv
      refine lv_iload hx hb dX9_night_64 (lv_at hl 5 rfl) ?_
      refine lv_sipush (v := nI 144) hx hb dX9_night_66 (by decide) ?_
      refine r_icmp_geN (tgt := 98) hx hb dX9_night_69 (by decide) (by omega) (by decide) (fun c_69 => ?_) (fun c_69 => ?_)
      · obtain rfl : k = 144 := by omega
        have h1 := n1_all hs9 hP9 hQ9 h0
        have hG : PW D cI cZ cO rdom L (m_n1 σ9).2 ow H := by rw [n1_s]; exact hG
        refine lv_iload hx hb dX9_night_98 (lv_at hl 4 rfl) ?_
        refine lv_if_ne (tgt := 107) hx hb dX9_night_100 (by decide) (fun c_100 => ?_) (fun c_100 => ?_)
        · have c9 : ¬ (m_n1 σ9).1 = 0 := by rw [n1_f]; exact c_100
          refine lv_iconst (v := nI 0) hx hb dX9_night_107 (by decide) ?_
          refine lv_istore_n (lv' := [(2, .int (nI 0)), (0, .ref (L 999 0)), (1, .int (nI n)), (3, .int (nI (σ9.2.2.1 925 0 0))), (4, .int ((m_runs2 (σ9.2.2.1 925 0 0) (σ9.2.2.1 921 0 (σ9.2.2.1 925 0 0)) (σ9.2.2.1 922 0 (σ9.2.2.1 925 0 0)) σ9).1)), (5, .int (nI 144))]) hx hb dX9_night_108 rfl hl (by decide) rfl (fun ls hl => ?_)
          refine lv_iload_n hx hb dX9_night_109 rfl (lv_at hl 0 rfl) ?_
          refine r_if_eqN (tgt := 180) hx hb dX9_night_110 (by decide) (by omega) (fun c_110 => ?_) (fun c_110 => absurd c_110 (by decide))
          refine lv_goto (tgt := 20) hx hb dX9_night_180 (by decide) ?_
          exact ih0 ⟨g, n, 0, (m_n1 σ9).2⟩ (by show g < g + 1; omega) (⟨hv.trans (by rw [if_neg c_21]; exact (ngl_n c9).trans (if_pos rfl).symm), h1.1, h1.2.1, h1.2.2.1, fun z => absurd rfl z, by omega⟩) H locs ls hG hS (lv_sub hl [1, 2, 0] rfl)
        · have c9 : (m_n1 σ9).1 = 0 := by rw [n1_f]; exact c_100
          refine lv_iconst (v := nI 1) hx hb dX9_night_103 (by decide) ?_
          refine lv_goto (tgt := 108) hx hb dX9_night_104 (by decide) ?_
          refine lv_istore_n (lv' := [(2, .int (nI 1)), (0, .ref (L 999 0)), (1, .int (nI n)), (3, .int (nI (σ9.2.2.1 925 0 0))), (4, .int ((m_runs2 (σ9.2.2.1 925 0 0) (σ9.2.2.1 921 0 (σ9.2.2.1 925 0 0)) (σ9.2.2.1 922 0 (σ9.2.2.1 925 0 0)) σ9).1)), (5, .int (nI 144))]) hx hb dX9_night_108 rfl hl (by decide) rfl (fun ls hl => ?_)
          refine lv_iload_n hx hb dX9_night_109 rfl (lv_at hl 0 rfl) ?_
          refine r_if_eqN (tgt := 180) hx hb dX9_night_110 (by decide) (by omega) (fun c_110 => absurd c_110 (by decide)) (fun c_110 => ?_)
          refine lv_aload_n hx hb dX9_night_113 rfl (lv_at hl 1 rfl) ?_
          refine gt_X9_59 X hK hG rd_999 dX9_night_114 ?_
          refine lv_iload_n hx hb dX9_night_117 rfl (lv_at hl 3 rfl) ?_
          refine lv_iconst (v := nI 2) hx hb dX9_night_118 (by decide) ?_
          refine as_920 X hK hG hS hA rd_920 (i := σ9.2.2.1 925 0 0) (hq.1) dX9_night_119 (fun H locs hG hS => ?_)
          refine lv_aload_n hx hb dX9_night_120 rfl (lv_at hl 1 rfl) ?_
          refine lv_dup hx hb dX9_night_121 rfl ?_
          refine gt_X9_138 X hK hG rd_999 (x := σ9.1 926 0) ((show ((m_n1 σ9).2).1 926 0 = _ from by rw [h1.2.2.2.1] <;> rfl).trans rfl) dX9_night_122 ?_
          refine lv_iconst (v := nI 1) hx hb dX9_night_125 (by decide) ?_
          refine r_subN hx hb (by omega) dX9_night_126 ?_
          refine pt_X9_138 X hK hG hS hA rd_999 dX9_night_127 (fun H locs hG hS => ?_)
          refine lv_iconst (v := nI 0) hx hb dX9_night_130 (by decide) ?_
          refine lv_istore (lv' := [(5, .int (nI 0)), (2, .int (nI 1)), (0, .ref (L 999 0)), (1, .int (nI n)), (3, .int (nI (σ9.2.2.1 925 0 0))), (4, .int ((m_runs2 (σ9.2.2.1 925 0 0) (σ9.2.2.1 921 0 (σ9.2.2.1 925 0 0)) (σ9.2.2.1 922 0 (σ9.2.2.1 925 0 0)) σ9).1))]) hx hb dX9_night_131 hl (by decide) rfl (fun ls hl => ?_)
          refine r_loop (ι := Nat) (fun (k : Nat) => [(0, .ref (L 999 0)), (1, .int (nI n)), (3, .int (nI (σ9.2.2.1 925 0 0))), (5, .int (nI k))]) (fun (k : Nat) => (m_shf k (wN (wB (m_n1 σ9).2 920 0 (σ9.2.2.1 925 0 0) (nI 2)) 926 0 (σ9.1 926 0 - 1)))) (fun (k : Nat) => σ9.1 926 0 - 1 - k) (fun (k : Nat) => k ≤ σ9.1 926 0 - 1) 0 (Nat.zero_le _) hG hS (lv_sub hl [2, 3, 4, 0] rfl) ?_
          rintro k hinv ih H locs ls hG hS hl
          have hG : PW D cI cZ cO rdom L (m_shf k (wN (wB (m_n1 σ9).2 920 0 (σ9.2.2.1 925 0 0) (nI 2)) 926 0 (σ9.1 926 0 - 1))) ow H := hG
          have hl : lv_has ls 6 [(0, .ref (L 999 0)), (1, .int (nI n)), (3, .int (nI (σ9.2.2.1 925 0 0))), (5, .int (nI k))] := hl
          obtain hk := hinv
          refine lv_iload hx hb dX9_night_133 (lv_at hl 3 rfl) ?_
          refine lv_aload_n hx hb dX9_night_135 rfl (lv_at hl 0 rfl) ?_
          refine gt_X9_138 X hK hG rd_999 (x := σ9.1 926 0 - 1) (by simp [wN, wI, wA, wB, up3, up2, up1, m_shf_N]) dX9_night_136 ?_
          refine r_icmp_geN (tgt := 164) hx hb dX9_night_139 (by decide) (by have := hQ9.1; omega) (by have := hQ9.1; omega) (fun c_139 => ?_) (fun c_139 => ?_)
          · obtain rfl : k = σ9.1 926 0 - 1 := by omega
            have h2 := n2_all (P := (σ9.2.2.1 925 0 0)) h1.1 h1.2.1 h1.2.2.1 (congrFun h1.2.2.2.1 0)
            have hG : PW D cI cZ cO rdom L (m_n2 (σ9.2.2.1 925 0 0) (σ9.1 926 0) (m_n1 σ9).2) ow H := by rw [n2_s]; exact hG
            refine r_iincN (b := 1) (lv' := [(1, .int (nI (n + 1))), (0, .ref (L 999 0)), (3, .int (nI (σ9.2.2.1 925 0 0))), (5, .int (nI (σ9.1 926 0 - 1)))]) hx hb dX9_night_164 hl (k := 1) rfl (by decide) (by decide) rfl (fun ls hl => ?_)
            refine r_cutH 179 [.int (nI (if σ9.1 926 0 - 1 = 0 then 0 else 1))] hG hS (fun H locs hG hS => ?_) (fun J_179 => ?_)
            · refine lv_istore_n (lv' := [(2, .int (nI (if σ9.1 926 0 - 1 = 0 then 0 else 1))), (1, .int (nI (n + 1))), (0, .ref (L 999 0)), (3, .int (nI (σ9.2.2.1 925 0 0))), (5, .int (nI (σ9.1 926 0 - 1)))]) hx hb dX9_night_179 rfl hl (by decide) rfl (fun ls hl => ?_)
              refine lv_goto (tgt := 20) hx hb dX9_night_180 (by decide) ?_
              exact ih0 ⟨g, n + 1, (if σ9.1 926 0 - 1 = 0 then 0 else 1), (m_n2 (σ9.2.2.1 925 0 0) (σ9.1 926 0) (m_n1 σ9).2)⟩ (by show g < g + 1; omega) (⟨hv.trans (by rw [if_neg c_21]; exact ngl_y c9), h2.1, h2.2.1, h2.2.2.1, fun z => by rw [h2.2.2.2]; exact ⟨Nat.pos_of_ne_zero (fun e => z (if_pos e)), by omega⟩, by split <;> omega⟩) H locs ls hG hS (lv_sub hl [2, 1, 0] rfl)
            · refine lv_aload_n hx hb dX9_night_167 rfl (lv_at hl 1 rfl) ?_
              refine gt_X9_138 X hK hG rd_999 (x := (m_n2 (σ9.2.2.1 925 0 0) (σ9.1 926 0) (m_n1 σ9).2).1 926 0) rfl dX9_night_168 ?_
              refine r_top (y := nI (σ9.1 926 0 - 1)) (congrArg nI h2.2.2.2) ?_
              refine r_if_leN (tgt := 178) hx hb dX9_night_171 (by decide) (by have := hQ9.1; omega) (fun c_171 => ?_) (fun c_171 => ?_)
              · refine lv_iconst (v := nI 0) hx hb dX9_night_178 (by decide) ?_
                exact r_top (by rw [if_pos c_171]) (J_179 _ _ hG hS)
              · refine lv_iconst (v := nI 1) hx hb dX9_night_174 (by decide) ?_
                refine lv_goto (tgt := 179) hx hb dX9_night_175 (by decide) ?_
                exact r_top (by rw [if_neg (Nat.pos_iff_ne_zero.mp c_171)]) (J_179 _ _ hG hS)
          · refine lv_aload_n hx hb dX9_night_142 rfl (lv_at hl 0 rfl) ?_
            refine gt_X9_71 X hK hG rd_999 dX9_night_143 ?_
            refine lv_iload hx hb dX9_night_146 (lv_at hl 3 rfl) ?_
            refine lv_aload_n hx hb dX9_night_148 rfl (lv_at hl 0 rfl) ?_
            refine gt_X9_71 X hK hG rd_999 dX9_night_149 ?_
            refine lv_iload hx hb dX9_night_152 (lv_at hl 3 rfl) ?_
            refine lv_iconst (v := nI 1) hx hb dX9_night_154 (by decide) ?_
            refine r_addN hx hb dX9_night_155 ?_
            refine al_925 X hK hG rd_925 (i := k + 1) (x := (m_shf k (wN (wB (m_n1 σ9).2 920 0 (σ9.2.2.1 925 0 0) (nI 2)) 926 0 (σ9.1 926 0 - 1))).2.2.1 925 0 (k + 1)) (by have := hQ9.1; omega) rfl dX9_night_156 ?_
            refine as_925 X hK hG hS hA rd_925 (i := k) (by have := hQ9.1; omega) dX9_night_157 (fun H locs hG hS => ?_)
            refine r_iincN (b := 1) (lv' := [(5, .int (nI (k + 1))), (0, .ref (L 999 0)), (1, .int (nI n)), (3, .int (nI (σ9.2.2.1 925 0 0)))]) hx hb dX9_night_158 hl (k := 3) rfl (by decide) (by decide) rfl (fun ls hl => ?_)
            refine lv_goto (tgt := 133) hx hb dX9_night_161 (by decide) ?_
            exact ih (k + 1) (by show σ9.1 926 0 - 1 - (k + 1) < σ9.1 926 0 - 1 - k; omega) (by show k + 1 ≤ σ9.1 926 0 - 1; omega) H locs ls hG hS (lv_sub hl [1, 2, 3, 0] rfl)
      · refine lv_aload_n hx hb dX9_night_72 rfl (lv_at hl 0 rfl) ?_
        refine gt_X9_44 X hK hG rd_999 dX9_night_73 ?_
        refine lv_sipush (v := nI 144) hx hb dX9_night_76 (by decide) ?_
        refine lv_iload_n hx hb dX9_night_79 rfl (lv_at hl 3 rfl) ?_
        refine r_mulN hx hb dX9_night_80 ?_
        refine lv_iload hx hb dX9_night_81 (lv_at hl 5 rfl) ?_
        refine r_addN hx hb dX9_night_83 ?_
        refine lv_aload_n hx hb dX9_night_84 rfl (lv_at hl 0 rfl) ?_
        refine gt_X9_92 X hK hG rd_999 dX9_night_85 ?_
        refine lv_iload hx hb dX9_night_88 (lv_at hl 5 rfl) ?_
        refine al_935 X hK hG rd_935 (i := k) (x := (m_bk (σ9.2.2.1 925 0 0) k (wA (m_runs2 (σ9.2.2.1 925 0 0) (σ9.2.2.1 921 0 (σ9.2.2.1 925 0 0)) (σ9.2.2.1 922 0 (σ9.2.2.1 925 0 0)) σ9).2 922 0 (σ9.2.2.1 925 0 0) (((m_runs2 (σ9.2.2.1 925 0 0) (σ9.2.2.1 921 0 (σ9.2.2.1 925 0 0)) (σ9.2.2.1 922 0 (σ9.2.2.1 925 0 0)) σ9).2).1 943 0))).2.2.2 935 0 k) (by omega) rfl dX9_night_90 ?_
        refine as_915 X hK hG hS hA rd_915 (i := (144 * (σ9.2.2.1 925 0 0)) + k) (by have := hq.1; omega) dX9_night_91 (fun H locs hG hS => ?_)
        refine r_iincN (b := 1) (lv' := [(5, .int (nI (k + 1))), (0, .ref (L 999 0)), (1, .int (nI n)), (2, .int (nI w)), (3, .int (nI (σ9.2.2.1 925 0 0))), (4, .int ((m_runs2 (σ9.2.2.1 925 0 0) (σ9.2.2.1 921 0 (σ9.2.2.1 925 0 0)) (σ9.2.2.1 922 0 (σ9.2.2.1 925 0 0)) σ9).1))]) hx hb dX9_night_92 hl (k := 5) rfl (by decide) (by decide) rfl (fun ls hl => ?_)
        refine lv_goto (tgt := 64) hx hb dX9_night_95 (by decide) ?_
        exact ih (k + 1) (by show 144 - (k + 1) < 144 - k; omega) (by show k + 1 ≤ 144; omega) H locs ls hG hS (lv_sub hl [1, 2, 3, 4, 5, 0] rfl)
  · refine lv_aload_n hx hb dX9_night_7 rfl (lv_at hl 1 rfl) ?_
    refine gt_X9_138 X hK hG rd_999 (x := σ.1 926 0) rfl dX9_night_8 ?_
    refine r_if_leN (tgt := 18) hx hb dX9_night_11 (by decide) (by have := hQ0.1; omega) (fun c_11 => ?_) (fun c_11 => ?_)
    · refine lv_iconst (v := nI 0) hx hb dX9_night_18 (by decide) ?_
      exact r_top (by rw [if_pos c_11]) (J_19 _ _ hG hS)
    · refine lv_iconst (v := nI 1) hx hb dX9_night_14 (by decide) ?_
      refine lv_goto (tgt := 19) hx hb dX9_night_15 (by decide) ?_
      exact r_top (by rw [if_neg (Nat.pos_iff_ne_zero.mp c_11)]) (J_19 _ _ hG hS)
