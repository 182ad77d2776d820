/-! ===== shares and means ===== -/
def bb_fq (a b : Int) : UInt32 := FP.fdiv (FP.i2f (ab_I a)) (FP.i2f (ab_I b))
def bb_fo (a b : Int) : Bool := decide (bb_fq a b &&& 0x7fffffff ≤ 0x7f800000) && decide (FP.f2d (bb_fq a b) &&& 0x7fffffffffffffff ≤ 0x7ff0000000000000) && decide (FP.dcmp (FP.f2d (bb_fq a b)) (FP.f2d (bb_fq a b)) = some .eq)

theorem bb_fo_0 : ∀ b : Nat, b < 16 → ∀ a : Nat, a < 4 * (b + 0) + 5 → bb_fo a (4 * ((b : Int) + 0 + 1)) = true := by decide +kernel
theorem bb_fo_1 : ∀ b : Nat, b < 8 → ∀ a : Nat, a < 4 * (b + 16) + 5 → bb_fo a (4 * ((b : Int) + 16 + 1)) = true := by decide +kernel
theorem bb_fo_2 : ∀ b : Nat, b < 6 → ∀ a : Nat, a < 4 * (b + 24) + 5 → bb_fo a (4 * ((b : Int) + 24 + 1)) = true := by decide +kernel
theorem bb_fo_3 : ∀ b : Nat, b < 5 → ∀ a : Nat, a < 4 * (b + 30) + 5 → bb_fo a (4 * ((b : Int) + 30 + 1)) = true := by decide +kernel
theorem bb_fo_4 : ∀ b : Nat, b < 5 → ∀ a : Nat, a < 4 * (b + 35) + 5 → bb_fo a (4 * ((b : Int) + 35 + 1)) = true := by decide +kernel
theorem bb_fo_5 : ∀ b : Nat, b < 4 → ∀ a : Nat, a < 4 * (b + 40) + 5 → bb_fo a (4 * ((b : Int) + 40 + 1)) = true := by decide +kernel
theorem bb_fo_6 : ∀ b : Nat, b < 4 → ∀ a : Nat, a < 4 * (b + 44) + 5 → bb_fo a (4 * ((b : Int) + 44 + 1)) = true := by decide +kernel
theorem bb_fo_ok {a b : Int} (ha : 0 ≤ a) (hab : a ≤ b) (hb0 : 0 < b) (hb : b ≤ 192) (h4 : b % 4 = 0) : bb_fo a b = true := by
  obtain ⟨c, rfl⟩ : ∃ c : Nat, b = 4 * ((c : Int) + 1) := ⟨(b / 4 - 1).toNat, by omega⟩
  obtain ⟨x, rfl⟩ := Int.eq_ofNat_of_zero_le ha
  have hc : c < 16 ∨ (16 ≤ c ∧ c < 24) ∨ (24 ≤ c ∧ c < 30) ∨ (30 ≤ c ∧ c < 35) ∨ (35 ≤ c ∧ c < 40) ∨ (40 ≤ c ∧ c < 44) ∨ (44 ≤ c ∧ c < 48) := by omega
  rcases hc with hc | hc | hc | hc | hc | hc | hc
  · have h := bb_fo_0 (c - 0) (by omega) x (by omega)
    rwa [show 4 * (((c - 0 : Nat) : Int) + 0 + 1) = 4 * ((c : Int) + 1) by omega] at h
  · have h := bb_fo_1 (c - 16) (by omega) x (by omega)
    rwa [show 4 * (((c - 16 : Nat) : Int) + 16 + 1) = 4 * ((c : Int) + 1) by omega] at h
  · have h := bb_fo_2 (c - 24) (by omega) x (by omega)
    rwa [show 4 * (((c - 24 : Nat) : Int) + 24 + 1) = 4 * ((c : Int) + 1) by omega] at h
  · have h := bb_fo_3 (c - 30) (by omega) x (by omega)
    rwa [show 4 * (((c - 30 : Nat) : Int) + 30 + 1) = 4 * ((c : Int) + 1) by omega] at h
  · have h := bb_fo_4 (c - 35) (by omega) x (by omega)
    rwa [show 4 * (((c - 35 : Nat) : Int) + 35 + 1) = 4 * ((c : Int) + 1) by omega] at h
  · have h := bb_fo_5 (c - 40) (by omega) x (by omega)
    rwa [show 4 * (((c - 40 : Nat) : Int) + 40 + 1) = 4 * ((c : Int) + 1) by omega] at h
  · have h := bb_fo_6 (c - 44) (by omega) x (by omega)
    rwa [show 4 * (((c - 44 : Nat) : Int) + 44 + 1) = 4 * ((c : Int) + 1) by omega] at h
theorem bb_fo_w {a b : Int} (h : bb_fo a b = true) : bb_fq a b &&& 0x7fffffff ≤ 0x7f800000 ∧ FP.f2d (bb_fq a b) &&& 0x7fffffffffffffff ≤ 0x7ff0000000000000 ∧ FP.dcmp (FP.f2d (bb_fq a b)) (FP.f2d (bb_fq a b)) = some .eq := by
  unfold bb_fo at h
  rw [Bool.and_eq_true, Bool.and_eq_true] at h
  exact ⟨of_decide_eq_true h.1.1, of_decide_eq_true h.1.2, of_decide_eq_true h.2⟩
def bb_dq (a b : Int) : UInt64 := FP.ddiv (FP.i2d (ab_I a)) (FP.i2d (ab_I b))
def bb_do (a b : Int) : Bool := decide (bb_dq a b &&& 0x7fffffffffffffff ≤ 0x7ff0000000000000) && decide (FP.dcmp (bb_dq a b) (bb_dq a b) = some .eq)
theorem bb_do_all : ∀ b : Nat, b < 6 → ∀ a : Nat, a < 73 → bb_do a ((b : Int) + 1) = true := by decide +kernel
theorem bb_do_2 {a b : Int} (h0 : 0 ≤ a) (h1 : a ≤ 72) (h2 : 0 < b) (h3 : b ≤ 6) : bb_dq a b &&& 0x7fffffffffffffff ≤ 0x7ff0000000000000 ∧ FP.dcmp (bb_dq a b) (bb_dq a b) = some .eq := by
  have h := bb_do_all (b - 1).toNat (by omega) a.toNat (by omega)
  rw [show (((b - 1).toNat : Nat) : Int) + 1 = b by omega, show ((a.toNat : Nat) : Int) = a by omega] at h
  unfold bb_do at h
  rw [Bool.and_eq_true] at h
  exact ⟨of_decide_eq_true h.1, of_decide_eq_true h.2⟩
/-- the number that was written -/
def bb_zd (z : ab_Z) (x : UInt64) : ab_Z := (z.1, z.2.1, (fun j => if j = 0 then x else z.2.2.1 j), z.2.2.2)
theorem bb_set9 {D : Nat → Int → Int} {L : Nat → Int → Int64} {z : ab_Z} {x : UInt64} : ab_set (ab_mk D L z) 509 (.inl (5, 1, .inr (.inr (.inr (.inl (fun j => if j = (ab_I 0).toNatClampNeg then x else z.2.2.1 j)))))) = ab_mk D L (bb_zd z x) := by
  unfold ab_set ab_mk
  congr 1
  funext j
  by_cases hj : j = 509
  · subst hj
    rw [if_pos rfl]
    rfl
  · rw [if_neg hj]
    show ab_mr (D j) (L j) z j = ab_mr (D j) (L j) (bb_zd z x) j
    unfold ab_mr
    split; · rfl
    split; · rfl
    split; · rfl
    split; · rfl
    split; · rfl
    split; · rfl
    split; · rfl
    have h15 : j - 494 ≠ 15 := by omega
    unfold ab_mo
    split <;> first | rfl | (exfalso; omega)
theorem bb_oDast {nx : Nat} {ls : ab_Ls} {st : List Value} {D : Nat → Int → Int} {L : Nat → Int → Int64} {z : ab_Z} {x : UInt64} : ab_dast nx ls (.double x :: .int (ab_I 0) :: .ref 509 :: st) (ab_mk D L z) = some (.inl (nx, ls, st, ab_mk D L (bb_zd z x))) := by
  rw [← bb_set9]
  rfl
section
variable {K : ab_Kt} {D : Nat → Int → Int} {L : Nat → Int → Int64} {z : ab_Z} {h : ab_H} {x0 x1 x2 x3 : Option Value} {st : List Value}
theorem bb_e12_6 {x : UInt64} : ab_ev K 12 6 [x0, x1, x2] [.double x, .int (ab_I 0), .ref 509] (ab_mk D L z) = ab_ev K 12 7 [x0, x1, x2] [] (ab_mk D L (bb_zd z x)) := ab_goI (op := ab_dast 7) (congrFun ab_q12 6) bb_oDast
theorem bb_e14_8 {x : UInt64} : ab_ev K 14 8 [x0, x1, x2, x3] [.double x, .int (ab_I 0), .ref 509] (ab_mk D L z) = ab_ev K 14 9 [x0, x1, x2, x3] [] (ab_mk D L (bb_zd z x)) := ab_goI (op := ab_dast 9) (congrFun ab_q14 8) bb_oDast
theorem bb_e14_7 {x : UInt32} (hx : FP.f2d x &&& 0x7fffffffffffffff ≤ 0x7ff0000000000000) : ab_ev K 14 7 [x0, x1, x2, x3] (.float x :: st) h = ab_ev K 14 8 [x0, x1, x2, x3] (.double (FP.f2d x) :: st) h := ab_goI (op := ab_f2d 8) (congrFun ab_q14 7) (if_pos hx)
theorem bb_e102_32 {a b : Int} (hx : bb_fq a b &&& 0x7fffffff ≤ 0x7f800000) : ab_ev K 102 32 [x0, x1, x2, x3] [.float (FP.i2f (ab_I b)), .float (FP.i2f (ab_I a))] h = ab_ev K 102 33 [x0, x1, x2, x3] [.float (bb_fq a b)] h := ab_goI (op := ab_fdiv 33) (congrFun ab_q102 32) (if_pos hx)
theorem bb_e15_52 {a b : Int} (hx : bb_fq a b &&& 0x7fffffff ≤ 0x7f800000) : ab_ev K 15 52 [x0, x1] [.float (FP.i2f (ab_I b)), .float (FP.i2f (ab_I a))] h = ab_ev K 15 53 [x0, x1] [.float (bb_fq a b)] h := ab_goI (op := ab_fdiv 53) (congrFun ab_q15 52) (if_pos hx)
theorem bb_e101_34 {a b : Int} (hx : bb_dq a b &&& 0x7fffffffffffffff ≤ 0x7ff0000000000000) : ab_ev K 101 34 [x0] [.double (FP.i2d (ab_I b)), .double (FP.i2d (ab_I a))] h = ab_ev K 101 35 [x0] [.double (bb_dq a b)] h := ab_goI (op := ab_ddiv 35) (congrFun ab_q101 34) (if_pos hx)
theorem bb_e13_38 {a b : Int} (hx : bb_dq a b &&& 0x7fffffffffffffff ≤ 0x7ff0000000000000) : ab_ev K 13 38 [x0] [.double (FP.i2d (ab_I b)), .double (FP.i2d (ab_I a))] h = ab_ev K 13 39 [x0] [.double (bb_dq a b)] h := ab_goI (op := ab_ddiv 39) (congrFun ab_q13 38) (if_pos hx)
end
theorem bb_INV_d {n : Int} {D : Nat → Int → Int} {L : Nat → Int → Int64} {z : ab_Z} {x : UInt64} (h : bb_INV n D L z) : bb_INV n D L (bb_zd z x) := by
  obtain ⟨n1, hH, hS, hR, h6, hT, hN, hM⟩ := h
  exact ⟨n1, hH, hS, hR, h6, hT, bb_LN_fr hN rfl rfl (Nat.le_refl _) rfl (fun _ _ => rfl) rfl rfl, hM⟩
/-- a call of the law that answers a number with a point, and the model's -/
def bb_OF (K : ab_Kt) (n : Int) (D : Nat → Int → Int) (L : Nat → Int → Int64) (z : ab_Z) (H : Nat) (as : List Value) (M : Nat) (as' : List Value) : Prop :=
  ∃ D1 L1 z1 D' k q, ab_cal K H as (ab_mk D L z) = some (.inl (some (.int (ab_I k))), ab_mk D1 L1 z1) ∧ ab_cal K M as' (ab_mk D1 L1 z1) = some (.inl (some (.float q)), ab_mk D' L1 z1) ∧ (0 ≤ k ∧ k ≤ 2) ∧ D' 500 7 = k ∧ (k = 0 → z1.2.2.1 0 = FP.f2d q ∧ FP.f2d q &&& 0x7fffffffffffffff ≤ 0x7ff0000000000000 ∧ FP.dcmp (FP.f2d q) (FP.f2d q) = some .eq) ∧ bb_INV (n + 1) D' L1 z1 ∧ z.2.2.2.2.2.1 ≤ z1.2.2.2.2.2.1 ∧ z.2.2.2.2.2.2 ≤ z1.2.2.2.2.2.2
def bb_OD (K : ab_Kt) (n : Int) (D : Nat → Int → Int) (L : Nat → Int → Int64) (z : ab_Z) (H : Nat) (as : List Value) (M : Nat) (as' : List Value) : Prop :=
  ∃ D1 L1 z1 D' k q, ab_cal K H as (ab_mk D L z) = some (.inl (some (.int (ab_I k))), ab_mk D1 L1 z1) ∧ ab_cal K M as' (ab_mk D1 L1 z1) = some (.inl (some (.double q)), ab_mk D' L1 z1) ∧ (0 ≤ k ∧ k ≤ 2) ∧ D' 500 7 = k ∧ (k = 0 → z1.2.2.1 0 = q ∧ FP.dcmp q q = some .eq) ∧ bb_INV (n + 1) D' L1 z1 ∧ z.2.2.2.2.2.1 ≤ z1.2.2.2.2.2.1 ∧ z.2.2.2.2.2.2 ≤ z1.2.2.2.2.2.2
theorem bb_all4 {g : Int → Int} {e mn : Int} (h : bb_WB g e mn) : ab_rall g e % 4 = 0 := by
  have n := bb_WB_n h
  have hs : ∀ s, 0 ≤ s → s ≤ bb_R g e 3 → ab_S (ab_rsz g e) s % 4 = 0 := fun s s0 => ab_Sind (P := fun s => s ≤ bb_R g e 3 → ab_S (ab_rsz g e) s % 4 = 0) (fun _ => by rw [ab_S0]; decide) (fun s s0 ih hs => by
    have h1 := ih (by omega)
    have h2 := bb_WB_s h s0 (by omega)
    have h3 := bb_WB_a h s0 (by omega)
    have h4 : ab_rsz g e s % 4 = 0 := by
      unfold ab_rsz ab_pw
      have : bb_R g e (7 + 3 * s + 1) = 1 ∨ bb_R g e (7 + 3 * s + 1) = 2 ∨ bb_R g e (7 + 3 * s + 1) = 3 := by omega
      rcases this with e | e | e <;> rw [e] <;> decide
    rw [ab_S1 _ s0]
    omega) s s0
  exact hs _ n.2.2.2.1.1 (Int.le_refl _)
theorem bb_op14 {K : ab_Kt} {D : Nat → Int → Int} {L : Nat → Int → Int64} {z : ab_Z} {n : Int} (hn : n < 512) (h : bb_INV n D L z) {b : Int} (hb9r : ab_rg b) : bb_OF K n D L z 14 [.ref 17, .int (ab_I b), .ref 509] 15 [.ref 500, .int (ab_I b)] := by
  have hI := h
  obtain ⟨n1, ⟨hw, w2, w3⟩, hS9, hR9, h69, hT9, hL9, -⟩ := hI
  have n9 : 0 ≤ n ∧ n < 512 := ⟨n1.1, hn⟩
  have cm := bb_cc_mono n9
  have hsp := ab_sp0
  have hk := w2.1
  have m := bb_WS_n hw
  obtain ⟨⟨q2, q3, q4, q5, q6, q7, q8, q9⟩, kp, ka, kb, kn⟩ := id hk
  have hwE : bb_WS (bb_cc n) (bb_E D 501) := by rw [bb_E_501]; exact hw
  by_cases hx : 0 ≤ b ∧ b < D 501 3
  · skip
    have b0 := hx.1
    have b1 := hx.2
    have b6 : b < 6 := by omega
    have hbk := ab_bk_bI hsp b0 b6
    have kk := kb b b0 b1
    have hb9 := bb_WS_W hw b0 b1
    have hn9 := bb_WB_n hb9
    have hIB := bb_KS_IB hw hk b0 b1
    have hI := bb_WS_IR hw b0 b1
    have hIE : ab_IR (bb_E D 501) b := by rw [bb_E_501]; exact hI
    have b1E : b < bb_E D 501 3 := by rw [bb_E_501]; exact b1
    have hal := ab_rall_rg hI
    have hwr := ab_rwrong_rg hI
    have hmi := ab_rmiss_rg hI
    obtain ⟨⟨f0, f1, f2, f3, f4, f6⟩, f7, f5, -, -⟩ := id kk
    have fd := bb_nd_rg hb9 m.2.2.1.1
    by_cases h0 : ab_rall (D 501) b = 0
    · skip
      refine ⟨D, L, ab_zc (ab_zx z), ab_u D 500 7 2, 2, 0, ?_, ?_, by omega, ab_u_eq, fun x => absurd x (by omega), bb_INV_q hn h (fun i _ e => ab_u_row e) (fun k e => ab_u_ne (.inr e)) (fun i _ => rfl) (.inr rfl), Nat.le_succ _, Nat.le_add_right _ 6⟩
      · simp (discharger := first | assumption | exact True.intro | exact not_false | (refine ab_gK ?_; with_unfolding_all rfl) | exact ab_rgI (by omega) (by omega) | omega) only [ab_a14, ab_a102, bb_y182 hw hk hb9r hx, ab_y183 hbk hIB, bb_v_all kk, h0, ab_re_h (M := 14) (pc := 4) (E := "java/lang/ArithmeticException") (ph := 15) (by rfl) (ab_zzx _), ab_e14_0, ab_e14_1, ab_e14_2, ab_e14_3, ab_e14_4, bb_e14_7, bb_e14_8, ab_e14_9, ab_e14_12, ab_e14_13, ab_e14_14, ab_e14_15, ab_e14_16, ab_e14_17, ab_e14_18, ab_e14_19, ab_e102_0, ab_e102_1, ab_e102_2, ab_e102_5, ab_e102_6, ab_e102_7, ab_e102_10, ab_e102_11, ab_e102_12, ab_e102_15, ab_e102_23, ab_e102_24, ab_e102_25, ab_e102_28, ab_e102_29, ab_e102_30, ab_e102_31, bb_e102_32, ab_e102_33, ab_br_t, ab_br_f, ab_re_v (ab_zz _), ab_re_n (ab_zz _)]
      · simp (discharger := first | assumption | exact True.intro | exact not_false | (refine ab_gK ?_; with_unfolding_all rfl) | exact ab_rgI (by omega) (by omega) | omega) only [ab_a15, ab_y103, if_pos hx, ab_y104 b0 b6 hI, h0, bb_y92_2, ab_e15_0, ab_e15_1, ab_e15_2, ab_e15_3, ab_e15_6, ab_e15_9, ab_e15_10, ab_e15_13, ab_e15_14, ab_e15_15, ab_e15_18, ab_e15_21, ab_e15_22, ab_e15_25, ab_e15_26, ab_e15_29, ab_e15_32, ab_e15_33, ab_e15_34, ab_e15_35, ab_e15_36, ab_e15_39, ab_e15_40, ab_e15_41, ab_e15_44, ab_e15_45, ab_e15_46, ab_e15_47, ab_e15_48, ab_e15_51, bb_e15_52, ab_e15_53, ab_br_t, ab_br_f, ab_re_v (ab_zz _), ab_re_n (ab_zz _)]
    · have h4 := bb_all4 hb9
      obtain ⟨g1, g2, g3⟩ := bb_fo_w (bb_fo_ok (a := ab_rall (D 501) b - ab_rwrong (D 501) b) (b := ab_rall (D 501) b) (by omega) (by omega) (by omega) (by omega) h4)
      refine ⟨D, L, bb_zd z (FP.f2d (bb_fq (ab_rall (D 501) b - ab_rwrong (D 501) b) (ab_rall (D 501) b))), bb_E D, 0, bb_fq (ab_rall (D 501) b - ab_rwrong (D 501) b) (ab_rall (D 501) b), ?_, ?_, by omega, ab_u_eq, fun _ => ⟨rfl, g2, g3⟩, bb_INV_d (bb_INV_q hn h (fun i _ e => ab_u_row e) (fun k e => ab_u_ne (.inr e)) (fun i _ => rfl) (.inl rfl)), Nat.le_refl _, Nat.le_refl _⟩
      · simp (discharger := first | assumption | exact True.intro | exact not_false | (refine ab_gK ?_; with_unfolding_all rfl) | exact ab_rgI (by omega) (by omega) | omega) only [ab_a14, ab_a102, bb_y182 hw hk hb9r hx, ab_y183 hbk hIB, bb_v_all kk, ab_y184 hbk hIB, bb_v_wrong kk hb9, ab_e14_0, ab_e14_1, ab_e14_2, ab_e14_3, ab_e14_4, bb_e14_7, bb_e14_8, ab_e14_9, ab_e14_12, ab_e14_13, ab_e14_14, ab_e14_15, ab_e14_16, ab_e14_17, ab_e14_18, ab_e14_19, ab_e102_0, ab_e102_1, ab_e102_2, ab_e102_5, ab_e102_6, ab_e102_7, ab_e102_10, ab_e102_11, ab_e102_12, ab_e102_15, ab_e102_23, ab_e102_24, ab_e102_25, ab_e102_28, ab_e102_29, ab_e102_30, ab_e102_31, bb_e102_32, ab_e102_33, ab_br_t, ab_br_f, ab_re_v (ab_zz _), ab_re_n (ab_zz _)]
      · simp (discharger := first | assumption | exact True.intro | exact not_false | (refine ab_gK ?_; with_unfolding_all rfl) | exact ab_rgI (by omega) (by omega) | omega) only [ab_a15, ab_y103, if_pos hx, ab_y104 b0 b6 hI, bb_y92_0, ab_y104 (D := bb_E D) b0 b6 hIE, ab_y105 (D := bb_E D) b0 b6 hIE, bb_E_501, ab_e15_0, ab_e15_1, ab_e15_2, ab_e15_3, ab_e15_6, ab_e15_9, ab_e15_10, ab_e15_13, ab_e15_14, ab_e15_15, ab_e15_18, ab_e15_21, ab_e15_22, ab_e15_25, ab_e15_26, ab_e15_29, ab_e15_32, ab_e15_33, ab_e15_34, ab_e15_35, ab_e15_36, ab_e15_39, ab_e15_40, ab_e15_41, ab_e15_44, ab_e15_45, ab_e15_46, ab_e15_47, ab_e15_48, ab_e15_51, bb_e15_52, ab_e15_53, ab_br_t, ab_br_f, ab_re_v (ab_zz _), ab_re_n (ab_zz _)]
  · skip
    refine ⟨D, L, ab_zc (ab_zx z), ab_u D 500 7 1, 1, 0, ?_, ?_, by omega, ab_u_eq, fun x => absurd x (by omega), bb_INV_q hn h (fun i _ e => ab_u_row e) (fun k e => ab_u_ne (.inr e)) (fun i _ => rfl) (.inr rfl), Nat.le_succ _, Nat.le_add_right _ 6⟩
    · simp (discharger := first | assumption | exact True.intro | exact not_false | (refine ab_gK ?_; with_unfolding_all rfl) | exact ab_rgI (by omega) (by omega) | omega) only [ab_a14, ab_a102, bb_y182t hw hk hb9r hx, ab_re_t (M := 102) (pc := 2) (E := "java/lang/IndexOutOfBoundsException") (by rfl) (ab_zzx _), ab_re_h (M := 14) (pc := 4) (E := "java/lang/IndexOutOfBoundsException") (ph := 12) (by rfl) (ab_zzx _), ab_e14_0, ab_e14_1, ab_e14_2, ab_e14_3, ab_e14_4, bb_e14_7, bb_e14_8, ab_e14_9, ab_e14_12, ab_e14_13, ab_e14_14, ab_e14_15, ab_e14_16, ab_e14_17, ab_e14_18, ab_e14_19, ab_e102_0, ab_e102_1, ab_e102_2, ab_e102_5, ab_e102_6, ab_e102_7, ab_e102_10, ab_e102_11, ab_e102_12, ab_e102_15, ab_e102_23, ab_e102_24, ab_e102_25, ab_e102_28, ab_e102_29, ab_e102_30, ab_e102_31, bb_e102_32, ab_e102_33, ab_br_t, ab_br_f, ab_re_v (ab_zz _), ab_re_n (ab_zz _)]
    · simp (discharger := first | assumption | exact True.intro | exact not_false | (refine ab_gK ?_; with_unfolding_all rfl) | exact ab_rgI (by omega) (by omega) | omega) only [ab_a15, ab_y103, if_neg hx, bb_y92_1, ab_e15_0, ab_e15_1, ab_e15_2, ab_e15_3, ab_e15_6, ab_e15_9, ab_e15_10, ab_e15_13, ab_e15_14, ab_e15_15, ab_e15_18, ab_e15_21, ab_e15_22, ab_e15_25, ab_e15_26, ab_e15_29, ab_e15_32, ab_e15_33, ab_e15_34, ab_e15_35, ab_e15_36, ab_e15_39, ab_e15_40, ab_e15_41, ab_e15_44, ab_e15_45, ab_e15_46, ab_e15_47, ab_e15_48, ab_e15_51, bb_e15_52, ab_e15_53, ab_br_t, ab_br_f, ab_re_v (ab_zz _), ab_re_n (ab_zz _)]

theorem bb_op12 {K : ab_Kt} {D : Nat → Int → Int} {L : Nat → Int → Int64} {z : ab_Z} {n : Int} (hn : n < 512) (h : bb_INV n D L z) : bb_OD K n D L z 12 [.ref 17, .ref 509] 13 [.ref 500] := by
  have hI := h
  obtain ⟨n1, ⟨hw, w2, w3⟩, hS9, hR9, h69, hT9, hL9, -⟩ := hI
  have n9 : 0 ≤ n ∧ n < 512 := ⟨n1.1, hn⟩
  have cm := bb_cc_mono n9
  have hsp := ab_sp0
  have hk := w2.1
  have m := bb_WS_n hw
  obtain ⟨⟨q2, q3, q4, q5, q6, q7, q8, q9⟩, kp, ka, kb, kn⟩ := id hk
  have hwE : bb_WS (bb_cc n) (bb_E D 501) := by rw [bb_E_501]; exact hw
  have hr3 : ab_rg (D 501 3) := ab_rgI (by omega) (by omega)
  by_cases h0 : D 501 3 = 0
  · skip
    refine ⟨D, L, ab_zc (ab_zx z), ab_u D 500 7 1, 1, 0, ?_, ?_, by omega, ab_u_eq, fun x => absurd x (by omega), bb_INV_q hn h (fun i _ e => ab_u_row e) (fun k e => ab_u_ne (.inr e)) (fun i _ => rfl) (.inr rfl), Nat.le_succ _, Nat.le_add_right _ 6⟩
    · simp (discharger := first | assumption | exact True.intro | exact not_false | (refine ab_gK ?_; with_unfolding_all rfl) | exact ab_rgI (by omega) (by omega) | omega) only [ab_a12, ab_a101, q2, h0, ab_re_h (M := 12) (pc := 3) (E := "java/lang/ArithmeticException") (ph := 10) (by rfl) (ab_zzx _), ab_e12_0, ab_e12_1, ab_e12_2, ab_e12_3, bb_e12_6, ab_e12_7, ab_e12_10, ab_e12_11, ab_e12_12, ab_e12_13, ab_e12_14, ab_e101_0, ab_e101_1, ab_e101_4, ab_e101_7, ab_e101_10, ab_e101_18, ab_e101_19, ab_e101_22, ab_e101_25, ab_e101_26, ab_e101_27, ab_e101_30, ab_e101_33, bb_e101_34, ab_e101_35, ab_br_t, ab_br_f, ab_re_v (ab_zz _), ab_re_n (ab_zz _)]
    · simp (discharger := first | assumption | exact True.intro | exact not_false | (refine ab_gK ?_; with_unfolding_all rfl) | exact ab_rgI (by omega) (by omega) | omega) only [ab_a13, h0, bb_y92_1, ab_e13_0, ab_e13_1, ab_e13_2, ab_e13_5, ab_e13_6, ab_e13_7, ab_e13_10, ab_e13_11, ab_e13_14, ab_e13_15, ab_e13_18, ab_e13_21, ab_e13_22, ab_e13_25, ab_e13_26, ab_e13_27, ab_e13_30, ab_e13_31, ab_e13_32, ab_e13_35, ab_e13_36, ab_e13_37, bb_e13_38, ab_e13_39, ab_br_t, ab_br_f, ab_re_v (ab_zz _), ab_re_n (ab_zz _)]
  · have s1 := ab_Sle (f := fun e => bb_R (D 501) e 3) (n := D 501 3) 12 hw.1.1 (fun i a d => (bb_WB_n (hw.2.2.2.2.2.1 i a d)).2.2.2.1.2)
    have s0 := ab_Sge (f := fun e => bb_R (D 501) e 3) (n := D 501 3) 0 hw.1.1 (fun i a d => (bb_WB_n (hw.2.2.2.2.2.1 i a d)).2.2.2.1.1)
    obtain ⟨g1, g2⟩ := bb_do_2 (a := ab_S (fun e => bb_R (D 501) e 3) (D 501 3)) (b := D 501 3) (by omega) (by omega) (by omega) (by omega)
    have hsg : bb_E D 501 = D 501 := bb_E_501
    refine ⟨D, L, bb_zd z (bb_dq (ab_S (fun e => bb_R (D 501) e 3) (D 501 3)) (D 501 3)), bb_E D, 0, bb_dq (ab_S (fun e => bb_R (D 501) e 3) (D 501 3)) (D 501 3), ?_, ?_, by omega, ab_u_eq, fun _ => ⟨rfl, g2⟩, bb_INV_d (bb_INV_q hn h (fun i _ e => ab_u_row e) (fun k e => ab_u_ne (.inr e)) (fun i _ => rfl) (.inl rfl)), Nat.le_refl _, Nat.le_refl _⟩
    · simp (discharger := first | assumption | exact True.intro | exact not_false | (refine ab_gK ?_; with_unfolding_all rfl) | exact ab_rgI (by omega) (by omega) | omega) only [ab_a12, ab_a101, q2, bb_y180 hsp hw hk, ab_e12_0, ab_e12_1, ab_e12_2, ab_e12_3, bb_e12_6, ab_e12_7, ab_e12_10, ab_e12_11, ab_e12_12, ab_e12_13, ab_e12_14, ab_e101_0, ab_e101_1, ab_e101_4, ab_e101_7, ab_e101_10, ab_e101_18, ab_e101_19, ab_e101_22, ab_e101_25, ab_e101_26, ab_e101_27, ab_e101_30, ab_e101_33, bb_e101_34, ab_e101_35, ab_br_t, ab_br_f, ab_re_v (ab_zz _), ab_re_n (ab_zz _)]
    · simp (discharger := first | assumption | exact True.intro | exact not_false | (refine ab_gK ?_; with_unfolding_all rfl) | exact ab_rgI (by omega) (by omega) | omega) only [ab_a13, bb_y92_0, bb_y98 (D := bb_E D) hwE (q := 3), bb_E_501, ab_e13_0, ab_e13_1, ab_e13_2, ab_e13_5, ab_e13_6, ab_e13_7, ab_e13_10, ab_e13_11, ab_e13_14, ab_e13_15, ab_e13_18, ab_e13_21, ab_e13_22, ab_e13_25, ab_e13_26, ab_e13_27, ab_e13_30, ab_e13_31, ab_e13_32, ab_e13_35, ab_e13_36, ab_e13_37, bb_e13_38, ab_e13_39, ab_br_t, ab_br_f, ab_re_v (ab_zz _), ab_re_n (ab_zz _)]

