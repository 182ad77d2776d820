/-! ===== bits ===== -/
/-! ===== lN n to 2^64: shifts, and, or, masks, one bit ===== -/
theorem wb_tb (n : Nat) : (lN n).toBitVec = BitVec.ofNat 64 n := rfl
theorem wb_inj {a b : Int64} (h : a.toBitVec = b.toBitVec) : a = b := Int64.toBitVec_inj.mp h
theorem wb_tn {n : Nat} (h : n < 2 ^ 64) : (lN n).toBitVec.toNat = n := by rw [wb_tb, BitVec.toNat_ofNat, Nat.mod_eq_of_lt h]
theorem wb_of (x : Int64) : ∃ n, n < 2 ^ 64 ∧ x = lN n := ⟨x.toBitVec.toNat, x.toBitVec.isLt, wb_inj (by rw [wb_tb]; simp)⟩
theorem wb_of32 (x : Int32) : ∃ n, n < 2 ^ 32 ∧ x = nI n := ⟨x.toBitVec.toNat, x.toBitVec.isLt, Int32.toBitVec_inj.mp (by show _ = BitVec.ofNat 32 _; simp)⟩
theorem wb_c : ∀ k, k < 64 → ((nI k).toInt64 &&& 63) = lN k := by decide +kernel
theorem wb_cu : ∀ k, k < 64 → ((nI k).toInt64.toUInt64 &&& Int64.toUInt64 63) = UInt64.ofNat k := by decide +kernel
theorem wb_sm : ∀ k, k < 64 → (BitVec.ofNat 64 k).smod 64 = BitVec.ofNat 64 k := by decide +kernel
theorem wb_pw {a b : Nat} (h : a ≤ b) : 2 ^ b = 2 ^ a * 2 ^ (b - a) := by rw [← Nat.pow_add]; congr 1; omega
theorem wb_lt2 {a b : Nat} (h : a < b) : 2 ^ a < 2 ^ b := Nat.pow_lt_pow_right (by decide) h
theorem wb_mod (n : Nat) : lN n = lN (n % 2 ^ 64) := wb_inj (by rw [wb_tb, wb_tb]; apply BitVec.eq_of_toNat_eq; rw [BitVec.toNat_ofNat, BitVec.toNat_ofNat, Nat.mod_mod])
theorem wb_shr {n k : Nat} (hn : n < 2 ^ 64) (hk : k < 64) : ((lN n).toUInt64 >>> ((nI k).toInt64.toUInt64 &&& Int64.toUInt64 63)).toInt64 = lN (n / 2 ^ k) := by
  rw [wb_cu k hk]
  apply wb_inj
  apply BitVec.eq_of_toNat_eq
  show ((lN n).toUInt64 >>> UInt64.ofNat k).toNat = (BitVec.ofNat 64 _).toNat
  have h1 : (UInt64.ofNat k).toNat = k := by
    show (BitVec.ofNat 64 k).toNat = k
    rw [BitVec.toNat_ofNat, Nat.mod_eq_of_lt (by omega)]
  have h2 : (lN n).toUInt64.toNat = n := wb_tn hn
  rw [UInt64.toNat_shiftRight, h1, h2, Nat.mod_eq_of_lt hk, Nat.shiftRight_eq_div_pow, BitVec.toNat_ofNat, Nat.mod_eq_of_lt (Nat.lt_of_le_of_lt (Nat.div_le_self _ _) hn)]
theorem wb_shl (n : Nat) {k : Nat} (hk : k < 64) : lN n <<< ((nI k).toInt64 &&& 63) = lN (n * 2 ^ k) := by
  rw [wb_c k hk]
  apply wb_inj
  rw [Int64.toBitVec_shiftLeft, wb_tb, wb_tb, wb_tb, wb_sm k hk]
  apply BitVec.eq_of_toNat_eq
  rw [BitVec.shiftLeft_eq', BitVec.toNat_shiftLeft, BitVec.toNat_ofNat, BitVec.toNat_ofNat, BitVec.toNat_ofNat, Nat.mod_eq_of_lt (show k < 2 ^ 64 by omega), Nat.shiftLeft_eq, Nat.mul_mod, Nat.mod_mod, ← Nat.mul_mod]
theorem wb_and {a b : Nat} (ha : a < 2 ^ 64) (hb : b < 2 ^ 64) : lN a &&& lN b = lN (a &&& b) := by
  apply wb_inj
  rw [Int64.toBitVec_and, wb_tb, wb_tb, wb_tb]
  apply BitVec.eq_of_toNat_eq
  rw [BitVec.toNat_and, BitVec.toNat_ofNat, BitVec.toNat_ofNat, BitVec.toNat_ofNat, Nat.mod_eq_of_lt ha, Nat.mod_eq_of_lt hb, Nat.mod_eq_of_lt (Nat.and_lt_two_pow _ hb)]
theorem wb_or {a b : Nat} (ha : a < 2 ^ 64) (hb : b < 2 ^ 64) : lN a ||| lN b = lN (a ||| b) := by
  apply wb_inj
  rw [Int64.toBitVec_or, wb_tb, wb_tb, wb_tb]
  apply BitVec.eq_of_toNat_eq
  rw [BitVec.toNat_or, BitVec.toNat_ofNat, BitVec.toNat_ofNat, BitVec.toNat_ofNat, Nat.mod_eq_of_lt ha, Nat.mod_eq_of_lt hb, Nat.mod_eq_of_lt (Nat.or_lt_two_pow ha hb)]
theorem wb_mask {n k : Nat} (hn : n < 2 ^ 64) (hk : k < 64) : lN n &&& lN (2 ^ k - 1) = lN (n % 2 ^ k) := by
  rw [wb_and hn (by have := wb_lt2 hk; omega), Nat.and_two_pow_sub_one_eq_mod]
theorem wb_a1 {n : Nat} (hn : n < 2 ^ 64) : lN n &&& 1 = lN (n % 2) := wb_mask (k := 1) hn (by decide)
theorem wb_bit {n k : Nat} (hn : n < 2 ^ 64) (hk : k < 64) : ((lN n).toUInt64 >>> ((nI k).toInt64.toUInt64 &&& Int64.toUInt64 63)).toInt64 &&& 1 = lN (n / 2 ^ k % 2) := by
  rw [wb_shr hn hk, wb_a1 (Nat.lt_of_le_of_lt (Nat.div_le_self _ _) hn)]


/-- the bit j of a long; of an int that is not negative -/
def bb_lb (x : Int64) (j : Int) : Int := if x.toBitVec.toNat.testBit j.toNat = true then 1 else 0
def bb_ib (a j : Int) : Int := if a.toNat.testBit j.toNat = true then 1 else 0
def bb_ls (x : Int64) (j : Int) : Int64 := (x.toUInt64 >>> ((ab_I j).toInt64.toUInt64 &&& Int64.toUInt64 63)).toInt64
def bb_l1 (j : Int) : Int64 := 1 <<< ((ab_I j).toInt64 &&& 63)
def bb_or (a j : Int) : Int := ((a.toNat ||| 2 ^ j.toNat : Nat) : Int)
theorem bb_I_n {j : Int} (h : 0 ≤ j) : ab_I j = nI j.toNat := by
  rw [← ab_I_nat, Int.toNat_of_nonneg h]
theorem bb_tb (n j : Nat) : n / 2 ^ j % 2 = if n.testBit j = true then 1 else 0 := by
  rw [Nat.testBit_eq_decide_div_mod_eq]
  by_cases h : n / 2 ^ j % 2 = 1
  · rw [h]; simp
  · simp [h]; omega
theorem bb_lsbit {x : Int64} {j : Int} (h0 : 0 ≤ j) (h1 : j < 64) : bb_ls x j &&& 1 = lN (if x.toBitVec.toNat.testBit j.toNat = true then 1 else 0) := by
  obtain ⟨n, hn, rfl⟩ := wb_of x
  unfold bb_ls
  rw [bb_I_n h0, wb_bit hn (by omega), bb_tb, wb_tn hn]
theorem bb_lcmp {x : Int64} {j : Int} (h0 : 0 ≤ j) (h1 : j < 64) : lg_cmp (bb_ls x j &&& 1) 1 = ab_I (bb_lb x j - 1) := by
  rw [bb_lsbit h0 h1]
  unfold bb_lb
  by_cases h : x.toBitVec.toNat.testBit j.toNat = true
  · rw [if_pos h, if_pos h]; decide +kernel
  · rw [if_neg h, if_neg h]; decide +kernel
theorem bb_lb_or {x : Int64} {i j : Int} (h0 : 0 ≤ j) (h1 : j < 64) (h2 : 0 ≤ i) (h3 : i < 64) : bb_lb (x ||| bb_l1 j) i = if i = j then 1 else bb_lb x i := by
  obtain ⟨n, hn, rfl⟩ := wb_of x
  have e1 : bb_l1 j = lN (2 ^ j.toNat) := by
    unfold bb_l1
    rw [bb_I_n h0]
    have := wb_shl 1 (k := j.toNat) (by omega)
    rw [Nat.one_mul] at this
    exact this
  have hp : 2 ^ j.toNat < 2 ^ 64 := Nat.pow_lt_pow_right (by decide) (by omega)
  rw [e1, wb_or hn hp]
  unfold bb_lb
  rw [wb_tn (Nat.or_lt_two_pow hn hp), wb_tn hn, Nat.testBit_or, Nat.testBit_two_pow]
  by_cases h : i = j
  · subst h; simp
  · have : j.toNat ≠ i.toNat := by omega
    simp [h, this]
theorem bb_lb0 (i : Int) : bb_lb 0 i = 0 := by
  unfold bb_lb
  rw [show (0 : Int64).toBitVec.toNat = 0 from rfl]
  simp
theorem bb_lb_rg (x : Int64) (i : Int) : bb_lb x i = 0 ∨ bb_lb x i = 1 := by unfold bb_lb; split <;> simp
theorem bb_ib_rg (x i : Int) : bb_ib x i = 0 ∨ bb_ib x i = 1 := by unfold bb_ib; split <;> simp
theorem bb_ib0 (i : Int) : bb_ib 0 i = 0 := by unfold bb_ib; simp
theorem bb_ib_or {a i j : Int} (h2 : 0 ≤ i) (h0 : 0 ≤ j) : bb_ib (bb_or a j) i = if i = j then 1 else bb_ib a i := by
  unfold bb_ib bb_or
  rw [Int.toNat_natCast, Nat.testBit_or, Nat.testBit_two_pow]
  by_cases h : i = j
  · subst h; simp
  · have : j.toNat ≠ i.toNat := by omega
    simp [h, this]
theorem bb_or_rg {a j : Int} (h0 : 0 ≤ a) (h1 : a < 16777216) (h2 : 0 ≤ j) (h3 : j < 24) : 0 ≤ bb_or a j ∧ bb_or a j < 16777216 := by
  unfold bb_or
  have hp : 2 ^ j.toNat < 2 ^ 24 := Nat.pow_lt_pow_right (by decide) (by omega)
  have := Nat.or_lt_two_pow (x := a.toNat) (y := 2 ^ j.toNat) (n := 24) (by omega) hp
  omega
theorem bb_sm : ∀ k, k < 32 → ((nI k &&& 31).toBitVec.smod 32).toNat = k := by decide +kernel
theorem bb_ib_eq {a j : Int} : bb_ib a j = ((a.toNat / 2 ^ j.toNat % 2 : Nat) : Int) := by
  unfold bb_ib
  rw [bb_tb]
  split <;> rfl
theorem bb_shr {a j : Int} (h0 : 0 ≤ a) (h1 : a < 2147483648) (h2 : 0 ≤ j) (h3 : j < 32) : ab_I a >>> (ab_I j &&& 31) = ab_I ((a.toNat / 2 ^ j.toNat : Nat) : Int) := by
  rw [bb_I_n h0, bb_I_n h2, pk_shrN (by omega) _ j.toNat (bb_sm _ (by omega)), ab_I_nat]
theorem bb_and1 {n : Nat} (h : n < 2 ^ 32) : ab_I (n : Int) &&& ab_I 1 = ab_I ((n % 2 : Nat) : Int) := by
  rw [ab_I_nat, ab_I_nat]
  exact pk_andN h 1 rfl
theorem bb_shl1 {j : Int} (h2 : 0 ≤ j) (h3 : j < 31) : ab_I 1 <<< (ab_I j &&& 31) = ab_I ((2 ^ j.toNat : Nat) : Int) := by
  have hp : 2 ^ j.toNat < 2 ^ 31 := Nat.pow_lt_pow_right (by decide) (by omega)
  rw [bb_I_n h2, ab_I_nat]
  have := pk_shlN (n := 1) (nI j.toNat &&& 31) j.toNat (bb_sm _ (by omega)) (by omega)
  rw [Nat.one_mul] at this
  exact this
theorem bb_iorN (a b : Nat) : nI a ||| nI b = nI (a ||| b) := by
  apply Int32.toBitVec_inj.mp
  show BitVec.ofNat 32 a ||| BitVec.ofNat 32 b = BitVec.ofNat 32 (a ||| b)
  apply BitVec.eq_of_getLsbD_eq
  intro i hi
  simp [BitVec.getLsbD_ofNat, hi]
theorem bb_ior {a j : Int} (h0 : 0 ≤ a) : ab_I a ||| ab_I ((2 ^ j.toNat : Nat) : Int) = ab_I (bb_or a j) := by
  unfold bb_or
  rw [bb_I_n h0, ab_I_nat, ab_I_nat, bb_iorN]
theorem bb_i2c {a : Int} (h0 : 0 ≤ a) (h1 : a < 65536) : ((ab_I a).toUInt32 % 65536).toInt32 = ab_I a := by
  rw [bb_I_n h0]
  apply Int32.toBitVec_inj.mp
  apply BitVec.eq_of_toNat_eq
  show ((UInt32.ofNat a.toNat) % 65536).toNat = (nI a.toNat).toBitVec.toNat
  rw [pk_tn (by omega)]
  rw [UInt32.toNat_mod, UInt32.toNat_ofNat']
  show a.toNat % 2 ^ 32 % 65536 = _
  omega
/-! ===== the steps that the program left out ===== -/
section
variable {K : ab_Kt} {st : List Value} {h : ab_H} {D : Nat → Int → Int} {L : Nat → Int → Int64} {z : ab_Z}
theorem bb_e205_26 {x0 x1 x2 : Option Value} {j : Int} {x : Int64} : ab_ev K 205 26 [x0, x1, x2] [.int (ab_I j), .long x] h = ab_ev K 205 27 [x0, x1, x2] [.long (bb_ls x j)] h := ab_goI (op := ab_lushr 27) (congrFun ab_q205 26) rfl
theorem bb_e205_28 {x0 x1 x2 : Option Value} {x : Int64} : ab_ev K 205 28 [x0, x1, x2] [.long 1, .long x] h = ab_ev K 205 29 [x0, x1, x2] [.long (x &&& 1)] h := ab_goI (op := ab_land 29) (congrFun ab_q205 28) rfl
theorem bb_e205_30 {x0 x1 x2 : Option Value} {j : Int} {x : Int64} (h0 : 0 ≤ j) (h1 : j < 64) : ab_ev K 205 30 [x0, x1, x2] [.long 1, .long (bb_ls x j &&& 1)] h = ab_ev K 205 31 [x0, x1, x2] [.int (ab_I (bb_lb x j - 1))] h := by rw [← bb_lcmp h0 h1]; exact ab_goI (op := ab_lcmp 31) (congrFun ab_q205 30) rfl
theorem bb_e260_27 {x0 x1 x2 : Option Value} {j : Int} {s1 s2 s3 : Value} : ab_ev K 260 27 [x0, x1, x2] [.int (ab_I j), .long 1, s1, s2, s3] h = ab_ev K 260 28 [x0, x1, x2] [.long (bb_l1 j), s1, s2, s3] h := ab_goI (op := ab_lshl 28) (congrFun ab_q260 27) rfl
theorem bb_e260_28 {x0 x1 x2 : Option Value} {x y : Int64} {s2 s3 : Value} : ab_ev K 260 28 [x0, x1, x2] [.long y, .long x, s2, s3] h = ab_ev K 260 29 [x0, x1, x2] [.long (x ||| y), s2, s3] h := ab_goI (op := ab_lor 29) (congrFun ab_q260 28) rfl
theorem bb_e130_16 {x0 x1 x2 : Option Value} {j a : Int} (h0 : 0 ≤ a) (h1 : a < 2147483648) (h2 : 0 ≤ j) (h3 : j < 32) : ab_ev K 130 16 [x0, x1, x2] [.int (ab_I j), .int (ab_I a)] h = ab_ev K 130 17 [x0, x1, x2] [.int (ab_I ((a.toNat / 2 ^ j.toNat : Nat) : Int))] h := by rw [← bb_shr h0 h1 h2 h3]; exact ab_goI (op := ab_ishr 17) (congrFun ab_q130 16) rfl
theorem bb_e130_18 {x0 x1 x2 : Option Value} {j a : Int} (h1 : a < 2147483648) : ab_ev K 130 18 [x0, x1, x2] [.int (ab_I 1), .int (ab_I ((a.toNat / 2 ^ j.toNat : Nat) : Int))] h = ab_ev K 130 19 [x0, x1, x2] [.int (ab_I (bb_ib a j))] h := by rw [bb_ib_eq, ← bb_and1 (Nat.lt_of_le_of_lt (Nat.div_le_self _ _) (by omega))]; exact ab_goI (op := ab_iand 19) (congrFun ab_q130 18) rfl
theorem bb_e65_94 {x0 x1 x2 : Option Value} {j : Int} {s1 s2 s3 s4 : Value} (h2 : 0 ≤ j) (h3 : j < 31) : ab_ev K 65 94 [x0, x1, x2] [.int (ab_I j), .int (ab_I 1), s1, s2, s3, s4] h = ab_ev K 65 95 [x0, x1, x2] [.int (ab_I ((2 ^ j.toNat : Nat) : Int)), s1, s2, s3, s4] h := by rw [← bb_shl1 h2 h3]; exact ab_goI (op := ab_ishl 95) (congrFun ab_q65 94) rfl
theorem bb_e65_95 {x0 x1 x2 : Option Value} {j a : Int} {s2 s3 s4 : Value} (h0 : 0 ≤ a) : ab_ev K 65 95 [x0, x1, x2] [.int (ab_I ((2 ^ j.toNat : Nat) : Int)), .int (ab_I a), s2, s3, s4] h = ab_ev K 65 96 [x0, x1, x2] [.int (ab_I (bb_or a j)), s2, s3, s4] h := by rw [← bb_ior h0]; exact ab_goI (op := ab_ior 96) (congrFun ab_q65 95) rfl
theorem bb_e31_86 {x0 x1 x2 x3 x4 : Option Value} {x y : Int} (hx : x = 0 ∨ x = 1) (hy : y = 0 ∨ y = 1) : ab_ev K 31 86 [x0, x1, x2, x3, x4] [.int (ab_I y), .int (ab_I x)] h = ab_ev K 31 87 [x0, x1, x2, x3, x4] [.int (ab_I (if x = 1 ∧ y = 1 then 1 else 0))] h := by rcases hx with rfl | rfl <;> rcases hy with rfl | rfl <;> exact ab_goI (op := ab_iand 87) (congrFun ab_q31 86) rfl
theorem bb_e109_9 {x0 x1 : Option Value} {a : Int} {s1 s2 : Value} (h0 : 0 ≤ a) (h1 : a < 65536) : ab_ev K 109 9 [x0, x1] [.int (ab_I a), s1, s2] h = ab_ev K 109 10 [x0, x1] [.int (ab_I a), s1, s2] h := by
  conv => rhs; rw [← bb_i2c h0 h1]
  exact ab_goI (op := ab_i2c 10) (congrFun ab_q109 9) rfl
theorem bb_e221_23 {x0 x1 x2 x3 : Option Value} {s0 : Value} : ab_ev K 221 23 [x0, x1, x2, x3] [s0] (ab_mk D L z) = ab_ev K 221 26 [x0, x1, x2, x3] [.ref 1, s0] (ab_mk D L z) := ab_goI (op := ab_gst (.ref 1) 26) (congrFun ab_q221 23) (if_pos (by show 17 ≤ 510 + z.2.2.2.2.1; omega))
theorem bb_e221_106 {x0 x1 x2 x3 : Option Value} {s0 : Value} : ab_ev K 221 106 [x0, x1, x2, x3] [s0] (ab_mk D L z) = ab_ev K 221 109 [x0, x1, x2, x3] [.ref 1, s0] (ab_mk D L z) := ab_goI (op := ab_gst (.ref 1) 109) (congrFun ab_q221 106) (if_pos (by show 17 ≤ 510 + z.2.2.2.2.1; omega))
theorem bb_e221_26 {x0 x1 x2 x3 : Option Value} {s0 : Value} : ab_ev K 221 26 [x0, x1, x2, x3] [.ref 1, s0] h = ab_ev K 221 27 [x0, x1, x2, x3] [.int (ab_I 3), s0] h := ab_goI (op := ab_lmin 27) (congrFun ab_q221 26) rfl
/-- the minutes of a glue -/
def bb_set (g : Int) : Int := if g = 0 then 30 else if g = 1 then 8 else 15
theorem bb_e221_110 {x0 x1 x2 x3 : Option Value} {g : Int} {s0 : Value} (h0 : 0 ≤ g) (h1 : g < 3) : ab_ev K 221 110 [x0, x1, x2, x3] [.int (ab_I g), .ref 1, s0] h = ab_ev K 221 111 [x0, x1, x2, x3] [.int (ab_I (bb_set g)), s0] h := by
  have e : g = 0 ∨ g = 1 ∨ g = 2 := by omega
  rcases e with rfl | rfl | rfl <;> exact ab_goI (op := ab_tmin 111) (congrFun ab_q221 110) rfl
theorem bb_e270_96 {x0 : Option Value}  : ab_ev K 270 96 [x0] [] (ab_mk D L z) = ab_ev K 270 98 [x0] [.ref 4] (ab_mk D L z) := ab_goI (op := ab_gst (.ref 4) 98) (congrFun ab_q270 96) (if_pos (by show 17 ≤ 510 + z.2.2.2.2.1; omega))
theorem bb_e270_99 {x0 : Option Value}  : ab_ev K 270 99 [x0] [] (ab_mk D L z) = ab_ev K 270 101 [x0] [.ref 6] (ab_mk D L z) := ab_goI (op := ab_gst (.ref 6) 101) (congrFun ab_q270 99) (if_pos (by show 17 ≤ 510 + z.2.2.2.2.1; omega))
theorem bb_e270_102 {x0 : Option Value}  : ab_ev K 270 102 [x0] [] (ab_mk D L z) = ab_ev K 270 104 [x0] [.ref 6] (ab_mk D L z) := ab_goI (op := ab_gst (.ref 6) 104) (congrFun ab_q270 102) (if_pos (by show 17 ≤ 510 + z.2.2.2.2.1; omega))
theorem bb_e270_105 {x0 : Option Value}  : ab_ev K 270 105 [x0] [] (ab_mk D L z) = ab_ev K 270 107 [x0] [.ref 8] (ab_mk D L z) := ab_goI (op := ab_gst (.ref 8) 107) (congrFun ab_q270 105) (if_pos (by show 17 ≤ 510 + z.2.2.2.2.1; omega))
theorem bb_e270_108 {x0 : Option Value}  : ab_ev K 270 108 [x0] [] (ab_mk D L z) = ab_ev K 270 110 [x0] [.ref 8] (ab_mk D L z) := ab_goI (op := ab_gst (.ref 8) 110) (congrFun ab_q270 108) (if_pos (by show 17 ≤ 510 + z.2.2.2.2.1; omega))
theorem bb_e270_111 {x0 : Option Value}  : ab_ev K 270 111 [x0] [] (ab_mk D L z) = ab_ev K 270 113 [x0] [.ref 6] (ab_mk D L z) := ab_goI (op := ab_gst (.ref 6) 113) (congrFun ab_q270 111) (if_pos (by show 17 ≤ 510 + z.2.2.2.2.1; omega))
theorem bb_e270_114 {x0 : Option Value}  : ab_ev K 270 114 [x0] [] (ab_mk D L z) = ab_ev K 270 116 [x0] [.ref 10] (ab_mk D L z) := ab_goI (op := ab_gst (.ref 10) 116) (congrFun ab_q270 114) (if_pos (by show 17 ≤ 510 + z.2.2.2.2.1; omega))
theorem bb_e270_117 {x0 : Option Value}  : ab_ev K 270 117 [x0] [] (ab_mk D L z) = ab_ev K 270 119 [x0] [.ref 6] (ab_mk D L z) := ab_goI (op := ab_gst (.ref 6) 119) (congrFun ab_q270 117) (if_pos (by show 17 ≤ 510 + z.2.2.2.2.1; omega))
theorem bb_e270_120 {x0 : Option Value}  : ab_ev K 270 120 [x0] [] (ab_mk D L z) = ab_ev K 270 122 [x0] [.ref 12] (ab_mk D L z) := ab_goI (op := ab_gst (.ref 12) 122) (congrFun ab_q270 120) (if_pos (by show 17 ≤ 510 + z.2.2.2.2.1; omega))
theorem bb_e270_123 {x0 : Option Value}  : ab_ev K 270 123 [x0] [] (ab_mk D L z) = ab_ev K 270 125 [x0] [.ref 14] (ab_mk D L z) := ab_goI (op := ab_gst (.ref 14) 125) (congrFun ab_q270 123) (if_pos (by show 17 ≤ 510 + z.2.2.2.2.1; omega))
end
