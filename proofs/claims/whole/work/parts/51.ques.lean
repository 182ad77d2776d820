/-! ===== questions ===== -/
def bb_E (D : Nat → Int → Int) : Nat → Int → Int := ab_u D 500 7 0
theorem bb_E_501 {D : Nat → Int → Int} : bb_E D 501 = D 501 := ab_u_row (by decide)
theorem bb_E_500 {D : Nat → Int → Int} {k : Int} (h : k ≠ 7) : bb_E D 500 k = D 500 k := ab_u_ne (.inr h)
section
variable {n : Int} {D D' : Nat → Int → Int} {L L' : Nat → Int → Int64} {z z' : ab_Z}
theorem bb_INV_q (hn : n < 512) (h : bb_INV n D L z) (hD : ∀ i, i ≠ 499 → i ≠ 500 → D' i = D i) (h5 : ∀ k, k ≠ 7 → D' 500 k = D 500 k) (hL : ∀ i, i ≠ 508 → L' i = L i) (hz : z' = z ∨ z' = ab_zc (ab_zx z)) : bb_INV (n + 1) D' L' z' := by
  obtain ⟨n1, hH, hS, hR, h6, hT, hN, hM⟩ := h
  have n9 : 0 ≤ n ∧ n < 512 := ⟨n1.1, hn⟩
  refine ⟨⟨by omega, by omega⟩, bb_HS_fr n9 hH (fun i a b c => ⟨hD i (by omega) (by omega), hL i (by omega)⟩) (h5 5 (by omega)) (hD 501 (by omega) (by omega)) (hD 502 (by omega) (by omega)), bb_SN_fr n9 hS (hD 17 (by omega) (by omega)) (h5 4 (by omega)) (fun i a b => ⟨hD i (by omega) (by omega), hL i (by omega)⟩) (hD 503 (by omega) (by omega)), ?_, by rw [h5 6 (by omega)]; exact h6, bb_TX_fr hT (by rw [hD 494 (by omega) (by omega)]) (hD 495 (by omega) (by omega)) (hD 505 (by omega) (by omega)) (h5 12 (by omega)) (h5 13 (by omega)) (hD 17 (by omega) (by omega)), ?_, ?_⟩
  · have e := hD 18 (by omega) (by omega)
    unfold bb_RS
    rw [e, h5 8 (by omega), h5 9 (by omega), h5 10 (by omega)]
    exact hR
  · rcases hz with rfl | rfl
    · exact bb_LN_fr hN rfl rfl (Nat.le_refl _) (hD 497 (by omega) (by omega)) (fun i a => hD i (by omega) (by omega)) (h5 15 (by omega)) (hD 506 (by omega) (by omega))
    · exact bb_LN_fr hN rfl rfl (Nat.le_succ _) (hD 497 (by omega) (by omega)) (fun i a => hD i (by omega) (by omega)) (h5 15 (by omega)) (hD 506 (by omega) (by omega))
  · obtain ⟨a, b⟩ := hM
    rcases hz with rfl | rfl
    · exact ⟨by omega, by omega⟩
    · refine ⟨?_, ?_⟩
      · show ((z.2.2.2.2.2.1 + 1 : Nat) : Int) ≤ 2000 + 2 * (n + 1) + z.2.1
        omega
      · show ((z.2.2.2.2.2.2 + 6 : Nat) : Int) ≤ 100000 + 20 * (n + 1) + 2 * z.2.1
        omega
variable {K : ab_Kt}
theorem bb_y92_0 : ab_cal K 92 [.ref 500, .int (ab_I 0)] (ab_mk D L z) = some (.inl (some (.int (ab_I (0)))), ab_mk (bb_E D) L z) := bb_y92 (r := 0) (ab_rgI (by omega) (by omega))
theorem bb_y92_1 : ab_cal K 92 [.ref 500, .int (ab_I 1)] (ab_mk D L z) = some (.inl (some (.int (ab_I (1)))), ab_mk (ab_u D 500 7 1) L z) := bb_y92 (r := 1) (ab_rgI (by omega) (by omega))
theorem bb_y92_2 : ab_cal K 92 [.ref 500, .int (ab_I 2)] (ab_mk D L z) = some (.inl (some (.int (ab_I (1)))), ab_mk (ab_u D 500 7 2) L z) := bb_y92 (r := 2) (ab_rgI (by omega) (by omega))
theorem bb_y182 {c : Int} {g : Int → Int} (hw : bb_WS c g) (hk : bb_KS D L 19 g) {b : Int} (hb : ab_rg b) (hx : 0 ≤ b ∧ b < g 3) : ab_cal K 182 [.ref 17, .int (ab_I b)] (ab_mk D L z) = some (.inl (some (.ref (ab_bI 19 b))), (ab_mk D L z)) := by
  have n := bb_WS_n hw
  have hsp := ab_sp0
  have q2 := hk.1.1
  simp (discharger := first | assumption | exact True.intro | exact not_false | (refine ab_gK ?_; with_unfolding_all rfl) | exact ab_rgI (by omega) (by omega) | omega) only [ab_a182, bb_y230 ab_sp0, q2, if_pos hx, ab_e182_0, ab_e182_1, ab_e182_4, ab_e182_5, ab_e182_8, ab_e182_11, ab_e182_19, ab_e182_20, ab_e182_23, ab_e182_26, ab_e182_27, ab_e182_28, ab_br_t, ab_br_f, ab_re_v (ab_zz _), ab_re_n (ab_zz _)]

theorem bb_y182t {c : Int} {g : Int → Int} (hw : bb_WS c g) (hk : bb_KS D L 19 g) {b : Int} (hb : ab_rg b) (hx : ¬ (0 ≤ b ∧ b < g 3)) : ab_cal K 182 [.ref 17, .int (ab_I b)] (ab_mk D L z) = some (.inr "java/lang/IndexOutOfBoundsException", ab_mk D L (ab_zx z)) := by
  have n := bb_WS_n hw
  have hsp := ab_sp0
  have q2 := hk.1.1
  simp (discharger := first | assumption | exact True.intro | exact not_false | (refine ab_gK ?_; with_unfolding_all rfl) | exact ab_rgI (by omega) (by omega) | omega) only [ab_a182, bb_y230 ab_sp0, q2, if_neg hx, ab_e182_0, ab_e182_1, ab_e182_4, ab_e182_5, ab_e182_8, ab_e182_11, ab_e182_19, ab_e182_20, ab_e182_23, ab_e182_26, ab_e182_27, ab_e182_28, ab_br_t, ab_br_f, ab_re_v (ab_zz _), ab_re_n (ab_zz _)]

theorem bb_y203 {p : Int} (hp : ab_rg p) (hx : 0 ≤ p ∧ p < 2) : ab_cal K 203 [.ref 17, .int (ab_I p)] (ab_mk D L z) = some (.inl (some (.ref (ab_pI 19 p))), (ab_mk D L z)) := by
  have hsp := ab_sp0
  simp (discharger := first | assumption | exact True.intro | exact not_false | (refine ab_gK ?_; with_unfolding_all rfl) | exact ab_rgI (by omega) (by omega) | omega) only [ab_a203, bb_y248 ab_sp0, if_pos hx, ab_e203_0, ab_e203_1, ab_e203_4, ab_e203_5, ab_e203_8, ab_e203_11, ab_e203_19, ab_e203_20, ab_e203_23, ab_e203_26, ab_e203_27, ab_e203_28, ab_br_t, ab_br_f, ab_re_v (ab_zz _), ab_re_n (ab_zz _)]

theorem bb_y203t {p : Int} (hp : ab_rg p) (hx : ¬ (0 ≤ p ∧ p < 2)) : ab_cal K 203 [.ref 17, .int (ab_I p)] (ab_mk D L z) = some (.inr "java/lang/IndexOutOfBoundsException", ab_mk D L (ab_zx z)) := by
  have hsp := ab_sp0
  simp (discharger := first | assumption | exact True.intro | exact not_false | (refine ab_gK ?_; with_unfolding_all rfl) | exact ab_rgI (by omega) (by omega) | omega) only [ab_a203, bb_y248 ab_sp0, if_neg hx, ab_e203_0, ab_e203_1, ab_e203_4, ab_e203_5, ab_e203_8, ab_e203_11, ab_e203_19, ab_e203_20, ab_e203_23, ab_e203_26, ab_e203_27, ab_e203_28, ab_br_t, ab_br_f, ab_re_v (ab_zz _), ab_re_n (ab_zz _)]

end
theorem bb_op52 {K : ab_Kt} {D : Nat → Int → Int} {L : Nat → Int → Int64} {z : ab_Z} {n : Int} (hn : n < 512) (h : bb_INV n D L z) {b : Int} (hb9r : ab_rg b) : bb_OP K n D L z 52 [.ref 17, .int (ab_I b), .ref 508] 53 [.ref 500, .int (ab_I b)] := by
  have hI := h
  obtain ⟨n1, ⟨hw, w2, w3⟩, hS9, hR9, h69, hT9, hL9, -⟩ := hI
  have n9 : 0 ≤ n ∧ n < 512 := ⟨n1.1, hn⟩
  have cm := bb_cc_mono n9
  have hsp := ab_sp0
  have hk := w2.1
  have m := bb_WS_n hw
  obtain ⟨⟨q2, q3, q4, q5, q6, q7, q8, q9⟩, kp, ka, kb, kn⟩ := id hk
  have hwE : bb_WS (bb_cc n) (bb_E D 501) := by rw [bb_E_501]; exact hw
  by_cases hx : 0 ≤ b ∧ b < D 501 3
  · skip
    have b0 := hx.1
    have b1 := hx.2
    have b6 : b < 6 := by omega
    have hbk := ab_bk_bI hsp b0 b6
    have kk := kb b b0 b1
    have hb9 := bb_WS_W hw b0 b1
    have hn9 := bb_WB_n hb9
    have hIB := bb_KS_IB hw hk b0 b1
    have hI := bb_WS_IR hw b0 b1
    have hIE : ab_IR (bb_E D 501) b := by rw [bb_E_501]; exact hI
    have b1E : b < bb_E D 501 3 := by rw [bb_E_501]; exact b1
    have hal := ab_rall_rg hI
    have hwr := ab_rwrong_rg hI
    have hmi := ab_rmiss_rg hI
    obtain ⟨⟨f0, f1, f2, f3, f4, f6⟩, f7, f5, -, -⟩ := id kk
    have fd := bb_nd_rg hb9 m.2.2.1.1
    refine ⟨D, ab_u L 508 0 (ab_I (ab_rwrong (D 501) b)).toInt64, z, bb_E D, 0, ab_rwrong (D 501) b, ?_, ?_, by omega, ab_u_eq, fun _ => ab_u_eq, bb_INV_q hn h (fun i _ e => ab_u_row e) (fun k e => ab_u_ne (.inr e)) (fun i e => ab_u_row e) (.inl rfl), Nat.le_refl _, Nat.le_refl _⟩
    · simp (discharger := first | assumption | exact True.intro | exact not_false | (refine ab_gK ?_; with_unfolding_all rfl) | exact ab_rgI (by omega) (by omega) | omega) only [ab_a52, ab_a144, bb_y182 hw hk hb9r hx, ab_y184 hbk hIB, bb_v_wrong kk hb9, ab_e52_0, ab_e52_1, ab_e52_2, ab_e52_3, ab_e52_4, ab_e52_7, ab_e52_8, ab_e52_9, ab_e52_12, ab_e52_13, ab_e52_14, ab_e52_15, ab_e52_16, ab_e144_0, ab_e144_1, ab_e144_2, ab_e144_5, ab_e144_8, ab_br_t, ab_br_f, ab_re_v (ab_zz _), ab_re_n (ab_zz _)]
    · simp (discharger := first | assumption | exact True.intro | exact not_false | (refine ab_gK ?_; with_unfolding_all rfl) | exact ab_rgI (by omega) (by omega) | omega) only [ab_a53, ab_y103, if_pos hx, bb_y92_0, bb_E_501, ab_y105 (D := bb_E D) b0 b6 hIE, ab_e53_0, ab_e53_1, ab_e53_2, ab_e53_3, ab_e53_6, ab_e53_9, ab_e53_10, ab_e53_13, ab_e53_14, ab_e53_17, ab_e53_20, ab_e53_21, ab_e53_24, ab_e53_25, ab_e53_26, ab_e53_29, ab_br_t, ab_br_f, ab_re_v (ab_zz _), ab_re_n (ab_zz _)]
  · skip
    refine ⟨D, L, ab_zc (ab_zx z), ab_u D 500 7 1, 1, 0, ?_, ?_, by omega, ab_u_eq, fun x => absurd x (by omega), bb_INV_q hn h (fun i _ e => ab_u_row e) (fun k e => ab_u_ne (.inr e)) (fun i _ => rfl) (.inr rfl), Nat.le_succ _, Nat.le_add_right _ 6⟩
    · simp (discharger := first | assumption | exact True.intro | exact not_false | (refine ab_gK ?_; with_unfolding_all rfl) | exact ab_rgI (by omega) (by omega) | omega) only [ab_a52, ab_a144, bb_y182t hw hk hb9r hx, ab_re_t (M := 144) (pc := 2) (E := "java/lang/IndexOutOfBoundsException") (by rfl) (ab_zzx _), ab_re_h (M := 52) (pc := 4) (E := "java/lang/IndexOutOfBoundsException") (ph := 12) (by rfl) (ab_zzx _), ab_e52_0, ab_e52_1, ab_e52_2, ab_e52_3, ab_e52_4, ab_e52_7, ab_e52_8, ab_e52_9, ab_e52_12, ab_e52_13, ab_e52_14, ab_e52_15, ab_e52_16, ab_e144_0, ab_e144_1, ab_e144_2, ab_e144_5, ab_e144_8, ab_br_t, ab_br_f, ab_re_v (ab_zz _), ab_re_n (ab_zz _)]
    · simp (discharger := first | assumption | exact True.intro | exact not_false | (refine ab_gK ?_; with_unfolding_all rfl) | exact ab_rgI (by omega) (by omega) | omega) only [ab_a53, ab_y103, if_neg hx, bb_y92_1, ab_e53_0, ab_e53_1, ab_e53_2, ab_e53_3, ab_e53_6, ab_e53_9, ab_e53_10, ab_e53_13, ab_e53_14, ab_e53_17, ab_e53_20, ab_e53_21, ab_e53_24, ab_e53_25, ab_e53_26, ab_e53_29, ab_br_t, ab_br_f, ab_re_v (ab_zz _), ab_re_n (ab_zz _)]

theorem bb_op46 {K : ab_Kt} {D : Nat → Int → Int} {L : Nat → Int → Int64} {z : ab_Z} {n : Int} (hn : n < 512) (h : bb_INV n D L z) {b : Int} (hb9r : ab_rg b) : bb_OP K n D L z 46 [.ref 17, .int (ab_I b), .ref 508] 47 [.ref 500, .int (ab_I b)] := by
  have hI := h
  obtain ⟨n1, ⟨hw, w2, w3⟩, hS9, hR9, h69, hT9, hL9, -⟩ := hI
  have n9 : 0 ≤ n ∧ n < 512 := ⟨n1.1, hn⟩
  have cm := bb_cc_mono n9
  have hsp := ab_sp0
  have hk := w2.1
  have m := bb_WS_n hw
  obtain ⟨⟨q2, q3, q4, q5, q6, q7, q8, q9⟩, kp, ka, kb, kn⟩ := id hk
  have hwE : bb_WS (bb_cc n) (bb_E D 501) := by rw [bb_E_501]; exact hw
  by_cases hx : 0 ≤ b ∧ b < D 501 3
  · skip
    have b0 := hx.1
    have b1 := hx.2
    have b6 : b < 6 := by omega
    have hbk := ab_bk_bI hsp b0 b6
    have kk := kb b b0 b1
    have hb9 := bb_WS_W hw b0 b1
    have hn9 := bb_WB_n hb9
    have hIB := bb_KS_IB hw hk b0 b1
    have hI := bb_WS_IR hw b0 b1
    have hIE : ab_IR (bb_E D 501) b := by rw [bb_E_501]; exact hI
    have b1E : b < bb_E D 501 3 := by rw [bb_E_501]; exact b1
    have hal := ab_rall_rg hI
    have hwr := ab_rwrong_rg hI
    have hmi := ab_rmiss_rg hI
    obtain ⟨⟨f0, f1, f2, f3, f4, f6⟩, f7, f5, -, -⟩ := id kk
    have fd := bb_nd_rg hb9 m.2.2.1.1
    refine ⟨D, ab_u L 508 0 (ab_I (ab_rmiss (D 501) b)).toInt64, z, bb_E D, 0, ab_rmiss (D 501) b, ?_, ?_, by omega, ab_u_eq, fun _ => ab_u_eq, bb_INV_q hn h (fun i _ e => ab_u_row e) (fun k e => ab_u_ne (.inr e)) (fun i e => ab_u_row e) (.inl rfl), Nat.le_refl _, Nat.le_refl _⟩
    · simp (discharger := first | assumption | exact True.intro | exact not_false | (refine ab_gK ?_; with_unfolding_all rfl) | exact ab_rgI (by omega) (by omega) | omega) only [ab_a46, ab_a138, bb_y182 hw hk hb9r hx, ab_y211 hbk hIB, bb_v_miss kk, ab_e46_0, ab_e46_1, ab_e46_2, ab_e46_3, ab_e46_4, ab_e46_7, ab_e46_8, ab_e46_9, ab_e46_12, ab_e46_13, ab_e46_14, ab_e46_15, ab_e46_16, ab_e138_0, ab_e138_1, ab_e138_2, ab_e138_5, ab_e138_8, ab_br_t, ab_br_f, ab_re_v (ab_zz _), ab_re_n (ab_zz _)]
    · simp (discharger := first | assumption | exact True.intro | exact not_false | (refine ab_gK ?_; with_unfolding_all rfl) | exact ab_rgI (by omega) (by omega) | omega) only [ab_a47, ab_y103, if_pos hx, bb_y92_0, bb_E_501, ab_y139 (D := bb_E D) b0 b6 hIE, ab_e47_0, ab_e47_1, ab_e47_2, ab_e47_3, ab_e47_6, ab_e47_9, ab_e47_10, ab_e47_13, ab_e47_14, ab_e47_17, ab_e47_20, ab_e47_21, ab_e47_24, ab_e47_25, ab_e47_26, ab_e47_29, ab_br_t, ab_br_f, ab_re_v (ab_zz _), ab_re_n (ab_zz _)]
  · skip
    refine ⟨D, L, ab_zc (ab_zx z), ab_u D 500 7 1, 1, 0, ?_, ?_, by omega, ab_u_eq, fun x => absurd x (by omega), bb_INV_q hn h (fun i _ e => ab_u_row e) (fun k e => ab_u_ne (.inr e)) (fun i _ => rfl) (.inr rfl), Nat.le_succ _, Nat.le_add_right _ 6⟩
    · simp (discharger := first | assumption | exact True.intro | exact not_false | (refine ab_gK ?_; with_unfolding_all rfl) | exact ab_rgI (by omega) (by omega) | omega) only [ab_a46, ab_a138, bb_y182t hw hk hb9r hx, ab_re_t (M := 138) (pc := 2) (E := "java/lang/IndexOutOfBoundsException") (by rfl) (ab_zzx _), ab_re_h (M := 46) (pc := 4) (E := "java/lang/IndexOutOfBoundsException") (ph := 12) (by rfl) (ab_zzx _), ab_e46_0, ab_e46_1, ab_e46_2, ab_e46_3, ab_e46_4, ab_e46_7, ab_e46_8, ab_e46_9, ab_e46_12, ab_e46_13, ab_e46_14, ab_e46_15, ab_e46_16, ab_e138_0, ab_e138_1, ab_e138_2, ab_e138_5, ab_e138_8, ab_br_t, ab_br_f, ab_re_v (ab_zz _), ab_re_n (ab_zz _)]
    · simp (discharger := first | assumption | exact True.intro | exact not_false | (refine ab_gK ?_; with_unfolding_all rfl) | exact ab_rgI (by omega) (by omega) | omega) only [ab_a47, ab_y103, if_neg hx, bb_y92_1, ab_e47_0, ab_e47_1, ab_e47_2, ab_e47_3, ab_e47_6, ab_e47_9, ab_e47_10, ab_e47_13, ab_e47_14, ab_e47_17, ab_e47_20, ab_e47_21, ab_e47_24, ab_e47_25, ab_e47_26, ab_e47_29, ab_br_t, ab_br_f, ab_re_v (ab_zz _), ab_re_n (ab_zz _)]

