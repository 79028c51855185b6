/-! longs as numbers: and, or, shifts -/
theorem lj_and (a b : Nat) : lJ a &&& lJ b = lJ (a &&& b) := by
  apply Int64.toBitVec_inj.1
  show BitVec.ofNat 64 a &&& BitVec.ofNat 64 b = BitVec.ofNat 64 (a &&& b)
  apply BitVec.eq_of_getLsbD_eq
  intro i hi
  simp [hi]
theorem lj_or (a b : Nat) : lJ a ||| lJ b = lJ (a ||| b) := by
  apply Int64.toBitVec_inj.1
  show BitVec.ofNat 64 a ||| BitVec.ofNat 64 b = BitVec.ofNat 64 (a ||| b)
  apply BitVec.eq_of_getLsbD_eq
  intro i hi
  simp [hi]
theorem lj_c : ∀ k, k < 64 → ((nI k).toInt64 &&& 63) = lJ k := by decide +kernel
theorem lj_sm : ∀ k, k < 64 → (BitVec.ofNat 64 k).smod 64 = BitVec.ofNat 64 k := by decide +kernel
theorem lj_tb (n : Nat) : (lJ n).toBitVec = BitVec.ofNat 64 n := rfl
theorem lj_shl (n : Nat) {k : Nat} (hk : k < 64) : lJ n <<< ((nI k).toInt64 &&& 63) = lJ (n * 2 ^ k) := by
  rw [lj_c k hk]
  apply Int64.toBitVec_inj.1
  rw [Int64.toBitVec_shiftLeft, lj_tb, lj_tb, lj_tb, lj_sm k hk]
  apply BitVec.eq_of_toNat_eq
  rw [BitVec.shiftLeft_eq', BitVec.toNat_shiftLeft, BitVec.toNat_ofNat, BitVec.toNat_ofNat, BitVec.toNat_ofNat, Nat.mod_eq_of_lt (show k < 2 ^ 64 by omega), Nat.shiftLeft_eq, Nat.mul_mod, Nat.mod_mod, ← Nat.mul_mod]
theorem lj_toInt {n : Nat} (h : n < 2 ^ 63) : (lJ n).toInt = (n : Int) := lg_ofNat_toInt h
theorem lj_shr {n k : Nat} (hn : n < 2 ^ 62) (hk : k < 64) : lJ n >>> ((nI k).toInt64 &&& 63) = lJ (n / 2 ^ k) := by
  rw [lj_c k hk]
  have hd : n / 2 ^ k ≤ n := Nat.div_le_self _ _
  apply Int64.toInt_inj.mp
  have hD : ((lJ k).toBitVec.smod 64).toNat = k := by rw [lj_tb, lj_sm k hk, BitVec.toNat_ofNat, Nat.mod_eq_of_lt (by omega)]
  have e : (lJ n >>> lJ k).toInt = (lJ n).toInt >>> k := by
    conv => rhs; rw [← hD]
    exact BitVec.toInt_sshiftRight ..
  rw [e, Int.shiftRight_eq_div_pow, lj_toInt (by omega), lj_toInt (by omega)]
  rfl
theorem n_shl (n : Nat) {k : Nat} (hk : k < 32) : nI n <<< (nI k &&& 31) = nI (n * 2 ^ k) := by
  have e1 : ∀ k, k < 32 → (nI k &&& 31) = nI k := by decide +kernel
  have e2 : ∀ k, k < 32 → (BitVec.ofNat 32 k).smod 32 = BitVec.ofNat 32 k := by decide +kernel
  have e3 : ∀ n, (nI n).toBitVec = BitVec.ofNat 32 n := fun _ => rfl
  rw [e1 k hk]
  apply Int32.toBitVec_inj.1
  rw [Int32.toBitVec_shiftLeft, e3, e3, e3, e2 k hk]
  apply BitVec.eq_of_toNat_eq
  rw [BitVec.shiftLeft_eq', BitVec.toNat_shiftLeft, BitVec.toNat_ofNat, BitVec.toNat_ofNat, BitVec.toNat_ofNat, Nat.mod_eq_of_lt (show k < 2 ^ 32 by omega), Nat.shiftLeft_eq, Nat.mul_mod, Nat.mod_mod, ← Nat.mul_mod]
theorem lj_cmp0 {a : Nat} (h : a < 2 ^ 31) : lg_cmp (lJ a) (lJ 0) = nI (if a = 0 then 0 else 1) := by
  unfold lg_cmp
  by_cases e : a = 0
  · subst e; decide
  · have h1 : lJ a > lJ 0 := (lN_lt (a := 0) (b := a) (by decide) h).mpr (by omega)
    rw [if_pos h1, if_neg e]; rfl
theorem or_lo {h l p k : Nat} (hp : 2 ^ k = p) (hl : l < p) : h * p ||| l = h * p + l := by
  subst hp
  rw [← Nat.shiftLeft_eq, Nat.shiftLeft_add_eq_or_of_lt hl]
theorem or_mid {h l b p q j k : Nat} (hp : 2 ^ j = p) (hq : 2 ^ k = q) (hl : l < p) (hb : b * p + l < q) : (h * q + l) ||| (b * p) = h * q + (b * p + l) := by
  rw [← or_lo hq (show l < q by omega), Nat.or_assoc, Nat.or_comm l, or_lo hp hl, or_lo hq hb]
theorem and_hi {a p k : Nat} (hp : 2 ^ k = p) (ha : a < 2 ^ 64) (hk : k < 64) : a &&& (2 ^ 64 - p) = a / p * p := by
  subst hp
  apply Nat.eq_of_testBit_eq
  intro i
  have e2 : 2 ^ 64 - 2 ^ k = (2 ^ (64 - k) - 1) * 2 ^ k := by
    rw [Nat.sub_mul, ← Nat.pow_add, Nat.sub_add_cancel (by omega), Nat.one_mul]
  rw [Nat.testBit_and, e2, ← Nat.shiftLeft_eq, ← Nat.shiftLeft_eq, Nat.testBit_shiftLeft, Nat.testBit_shiftLeft, Nat.testBit_two_pow_sub_one, ← Nat.shiftRight_eq_div_pow, Nat.testBit_shiftRight]
  by_cases c : k ≤ i
  · have e3 : k + (i - k) = i := by omega
    rw [e3]
    by_cases c2 : i < 64
    · have : i - k < 64 - k := by omega
      simp [c, this]
    · have : a.testBit i = false := Nat.testBit_lt_two_pow (Nat.lt_of_lt_of_le ha (Nat.pow_le_pow_right (by decide) (by omega)))
      simp [this]
  · simp [c]
theorem and_win {a p q k : Nat} (hp : 2 ^ k = p) (hq : q = 15 * p) : a &&& q = a / p % 16 * p := by
  subst hp hq
  apply Nat.eq_of_testBit_eq
  intro i
  rw [Nat.testBit_and, ← Nat.shiftLeft_eq, ← Nat.shiftLeft_eq, Nat.testBit_shiftLeft, Nat.testBit_shiftLeft, show (15 : Nat) = 2 ^ 4 - 1 from rfl, show (16 : Nat) = 2 ^ 4 from rfl, Nat.testBit_two_pow_sub_one, Nat.testBit_mod_two_pow, ← Nat.shiftRight_eq_div_pow, Nat.testBit_shiftRight]
  by_cases c : k ≤ i
  · have e3 : k + (i - k) = i := by omega
    rw [e3]
    simp [c, Bool.and_comm]
  · simp [c]
theorem and_m {a p k q : Nat} (hp : 2 ^ k = p) (hq : q + 1 = p) : a &&& q = a % p := by
  subst hp
  rw [show q = 2 ^ k - 1 by omega, Nat.and_two_pow_sub_one_eq_mod]
section LR
variable {p : Program} {l : Launch} {e : Env} {R : Room} {s : State} {m : MethodId} {args : Array Value} {below : List Frame} {meth : Method} {c : Code} {H H0 : Heap} {locs : List Loc} {cells slots : Nat} {Q : State → Prop}
variable {cc : ByteArray} {pc nL : Nat} {ls : Array Slot} {rest : List Value} {own : String}
theorem r_landJ (hx : p.tables.exec = Jvm.exec) (hb : c.code = cc) {a b v : Nat} (h : a &&& b = v) (d : decode cc pc = .ok (.land, 1)) (k : W p l e R s m args below meth c H locs cells slots Q (F0 m (pc + 1) ls (.long (lJ v) :: rest))) : W p l e R s m args below meth c H locs cells slots Q (F0 m pc ls (.long (lJ b) :: .long (lJ a) :: rest)) := by
  subst h
  refine lv_land hx hb d ?_
  rw [lj_and]
  exact k
theorem r_lorJ (hx : p.tables.exec = Jvm.exec) (hb : c.code = cc) {a b v : Nat} (h : a ||| b = v) (d : decode cc pc = .ok (.lor, 1)) (k : W p l e R s m args below meth c H locs cells slots Q (F0 m (pc + 1) ls (.long (lJ v) :: rest))) : W p l e R s m args below meth c H locs cells slots Q (F0 m pc ls (.long (lJ b) :: .long (lJ a) :: rest)) := by
  subst h
  refine lv_lor hx hb d ?_
  rw [lj_or]
  exact k
theorem r_lshrJ (hx : p.tables.exec = Jvm.exec) (hb : c.code = cc) {a j v : Nat} (ha : a < 2 ^ 62) (hj : j < 64) (h : a / 2 ^ j = v) (d : decode cc pc = .ok (.lshr, 1)) (k : W p l e R s m args below meth c H locs cells slots Q (F0 m (pc + 1) ls (.long (lJ v) :: rest))) : W p l e R s m args below meth c H locs cells slots Q (F0 m pc ls (.int (nI j) :: .long (lJ a) :: rest)) := by
  subst h
  exact lv_lshr hx hb d (lj_shr ha hj) k
theorem r_lshlJ (hx : p.tables.exec = Jvm.exec) (hb : c.code = cc) {a j v : Nat} (hj : j < 64) (h : a * 2 ^ j = v) (d : decode cc pc = .ok (.lshl, 1)) (k : W p l e R s m args below meth c H locs cells slots Q (F0 m (pc + 1) ls (.long (lJ v) :: rest))) : W p l e R s m args below meth c H locs cells slots Q (F0 m pc ls (.int (nI j) :: .long (lJ a) :: rest)) := by
  subst h
  exact lv_lshl hx hb d (lj_shl a hj) k
theorem r_ishlN (hx : p.tables.exec = Jvm.exec) (hb : c.code = cc) {a j v : Nat} (hj : j < 32) (h : a * 2 ^ j = v) (d : decode cc pc = .ok (.ishl, 1)) (k : W p l e R s m args below meth c H locs cells slots Q (F0 m (pc + 1) ls (.int (nI v) :: rest))) : W p l e R s m args below meth c H locs cells slots Q (F0 m pc ls (.int (nI j) :: .int (nI a) :: rest)) := by
  subst h
  refine lv_ishl hx hb d ?_
  rw [n_shl a hj]
  exact k
theorem r_l2iJ (hx : p.tables.exec = Jvm.exec) (hb : c.code = cc) {a : Nat} (d : decode cc pc = .ok (.l2i, 1)) (k : W p l e R s m args below meth c H locs cells slots Q (F0 m (pc + 1) ls (.int (nI a) :: rest))) : W p l e R s m args below meth c H locs cells slots Q (F0 m pc ls (.long (lJ a) :: rest)) := lv_l2i hx hb d (lN_i a) k
theorem r_i2lJ (hx : p.tables.exec = Jvm.exec) (hb : c.code = cc) {a : Nat} (h : a < 2 ^ 31) (d : decode cc pc = .ok (.i2l, 1)) (k : W p l e R s m args below meth c H locs cells slots Q (F0 m (pc + 1) ls (.long (lJ a) :: rest))) : W p l e R s m args below meth c H locs cells slots Q (F0 m pc ls (.int (nI a) :: rest)) := lv_i2l hx hb d (nI_l h) k
theorem r_lcmpJ (hx : p.tables.exec = Jvm.exec) (hb : c.code = cc) {a : Nat} (h : a < 2 ^ 31) (d : decode cc pc = .ok (.lcmp, 1)) (k : W p l e R s m args below meth c H locs cells slots Q (F0 m (pc + 1) ls (.int (nI (if a = 0 then 0 else 1)) :: rest))) : W p l e R s m args below meth c H locs cells slots Q (F0 m pc ls (.long (lJ 0) :: .long (lJ a) :: rest)) := by
  refine W.lcmp hx hb d ?_
  rw [lj_cmp0 h]
  exact k
theorem r_ldc2J (X : CallFix p m c cc nL s args TB own) {index : Nat} {v : Int64} {n : Nat} (hw : Cond.constantLong own index v ∈ TB) (h : v = lJ n) (d : decode cc pc = .ok (.ldc2_w index, 3)) (k : W p l e R s m args below meth c H locs cells slots Q (F0 m (pc + 3) ls (.long (lJ n) :: rest))) : W p l e R s m args below meth c H locs cells slots Q (F0 m pc ls rest) := by
  subst h
  exact lv_ldc2 X.1 X.2.1 X.2.2.2.1 (X.2.2.2.2 _ hw) d k
end LR
