/-! EXCEPTIONS: what a throw needs of the state beside the world -/
def strs : List (Nat × String) := [(71, "no more programs"), (351, "no such program"), (89, "word or value"), (99, "full, or a pallet is planned"), (108, "x or error"), (110, "kind or life"), (112, "no more tools"), (353, "no such tool"), (130, "the magazine is full"), (132, "stock"), (134, "no more pallets"), (355, "no such pallet"), (357, "no such cell"), (149, "height"), (160, "no clamp can be put there"), (174, "not raw, or something is wrong"), (197, "kind"), (214, "minutes"), (220, "too late"), (359, "no such gauge"), (229, "doubt"), (236, "no more drawings"), (361, "no such drawing"), (245, "height or tolerance"), (248, "no more features"), (254, "no such feature"), (257, "more or papers"), (272, "the part cannot be judged"), (324, "what"), (363, "no such paper")]
def names2 : List String := ["java/lang/RuntimeException", "java/lang/Exception"]
abbrev XTc (e : Nat) : String := match e with | 1 => "java/lang/IndexOutOfBoundsException" | 2 => "java/lang/IllegalArgumentException" | _ => "java/lang/IllegalStateException"
abbrev iniS (C : String) : MethodName := ⟨C, "<init>", "(Ljava/lang/String;)V"⟩
def exL : List Cond := [.castable (XTc 1) (XTc 1), .castable (XTc 2) (XTc 2), .castable (XTc 3) (XTc 3), .declares (iniS "java/lang/Throwable"), .declares (iniS "java/lang/Exception"), .declares (iniS "java/lang/RuntimeException"), .methodLinkNest RX8 43 yX7_init RX8, .methodLinkNest RX8 50 yX6_init RX8, .methodLinkNest RX8 57 yX1_init RX8, .methodLinkNest RX8 78 yX4_init RX8, .methodLinkNest RX8 240 yX0_init RX8]
theorem nk_warm {w : Cond} (hw : w ∈ exL) {s U : State} (hW : s.WarmedH U.vm) (h : va_Nw w s) : va_Nw w U := by
  rcases List.mem_cons.mp hw with rfl | hw
  · exact h.warmC hW
  rcases List.mem_cons.mp hw with rfl | hw
  · exact h.warmC hW
  rcases List.mem_cons.mp hw with rfl | hw
  · exact h.warmC hW
  rcases List.mem_cons.mp hw with rfl | hw
  · exact h.warmD hW
  rcases List.mem_cons.mp hw with rfl | hw
  · exact h.warmD hW
  rcases List.mem_cons.mp hw with rfl | hw
  · exact h.warmD hW
  rcases List.mem_cons.mp hw with rfl | hw
  · exact h.warmM hW
  rcases List.mem_cons.mp hw with rfl | hw
  · exact h.warmM hW
  rcases List.mem_cons.mp hw with rfl | hw
  · exact h.warmM hW
  rcases List.mem_cons.mp hw with rfl | hw
  · exact h.warmM hW
  rcases List.mem_cons.mp hw with rfl | hw
  · exact h.warmM hW
  · cases hw
def EX (A : Nat → Prop) (U : State) (H : Heap) : Prop := vx_Zq Bundle.tN "UNASSIGNED_STACK" Bundle.steD A U H ∧ vx_Zq Bundle.tN "SUPPRESSED_SENTINEL" Bundle.listD A U H ∧ (∀ z ∈ strs, ∃ a, vk_R RX8 z.1 z.2 a U) ∧ ∀ w ∈ exL, va_Nw w U
section EXs
variable {A B : Nat → Prop} {s u U : State} {H H1 : Heap}
theorem EX.warm (hW : s.WarmedH U.vm) (h : EX A s H) : EX A U H := ⟨h.1.moved hW.alike, h.2.1.moved hW.alike, fun z hz => (h.2.2.1 z hz).elim (fun a ha => ⟨a, ha.warm hW⟩), fun w hw => nk_warm hw hW (h.2.2.2 w hw)⟩
theorem EX.kept (h : EX A U H) (hq : ∀ a : Nat, a < H.size → ¬ A a → H1[a]? = H[a]?) : EX A U H1 := ⟨h.1.kept hq, h.2.1.kept hq, h.2.2⟩
theorem EX.narrow (h : EX A U H) (hAB : ∀ q, B q → A q) : EX B U H := ⟨h.1.narrow hAB, h.2.1.narrow hAB, h.2.2⟩
theorem EX.at {s : State} {H : Heap} {locs : List Loc} (h : EX A s s.heap) (hS : va_S A s.heap H locs) : EX A s H := h.kept hS.2.1
end EXs
theorem mem_tb {w : Cond} (h : w ∈ lw_tbl) (g : goodWord w = true) : w ∈ TB := List.mem_filter.mpr ⟨h, g⟩
/-- the words of a throw by X8 -/
def XWk (ik ic e : Nat) : Prop := Bundle.fit (XTc e) = true ∧ Cond.classLink RX8 ik (XTc e) ∈ TB ∧ Cond.initialized (XTc e) ∈ TB ∧ (∀ w ∈ (vx_atS RX8 ic (XTc e) names2).filter goodWord, w ∈ TB) ∧ (∀ w ∈ (vx_atS RX8 ic (XTc e) names2).filter (fun w => !goodWord w), w ∈ exL) ∧ ∀ w ∈ Cond.classLink RX8 ik (XTc e) :: Cond.initialized (XTc e) :: vx_atS RX8 ic (XTc e) names2, vx_ot w = true
theorem xw_of {ik ic e : Nat} (h1 : Bundle.fit (XTc e) = true) (h2 : Cond.classLink RX8 ik (XTc e) ∈ TB) (h3 : Cond.initialized (XTc e) ∈ TB) (h4 : (vx_atS RX8 ic (XTc e) names2).all (fun w => decide (w ∈ lw_tbl)) = true) (h5 : ((vx_atS RX8 ic (XTc e) names2).filter (fun w => !goodWord w)).all (fun w => decide (w ∈ exL)) = true) (h6 : (Cond.classLink RX8 ik (XTc e) :: Cond.initialized (XTc e) :: vx_atS RX8 ic (XTc e) names2).all vx_ot = true) : XWk ik ic e :=
  ⟨h1, h2, h3, fun w hw => mem_tb (of_decide_eq_true (List.all_eq_true.mp h4 w (List.mem_filter.mp hw).1)) (List.mem_filter.mp hw).2, fun w hw => of_decide_eq_true (List.all_eq_true.mp h5 w hw), fun w hw => List.all_eq_true.mp h6 w hw⟩
set_option maxHeartbeats 4000000 in
theorem xw_1 : XWk 252 256 1 := xw_of (by decide +kernel) tw_2_214 tw_1_19 (by decide +kernel) (by decide +kernel) (by decide +kernel)
set_option maxHeartbeats 4000000 in
theorem xw_2 : XWk 87 91 2 := xw_of (by decide +kernel) tw_2_139 tw_1_17 (by decide +kernel) (by decide +kernel) (by decide +kernel)
set_option maxHeartbeats 4000000 in
theorem xw_3 : XWk 69 73 3 := xw_of (by decide +kernel) tw_2_28 tw_1_15 (by decide +kernel) (by decide +kernel) (by decide +kernel)
