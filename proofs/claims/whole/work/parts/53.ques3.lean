/-! ===== questions with a count ===== -/
theorem bb_E_u {D : Nat → Int → Int} {k : Int} : ab_u (bb_E D) 500 7 k = ab_u D 500 7 k := by
  funext i j
  unfold bb_E ab_u
  split
  · split <;> rfl
  · rfl
theorem bb_rri_rg {g : Int → Int} {e s : Int} : 0 ≤ ab_rri g e s ∧ ab_rri g e s ≤ 16 := by
  have h := ab_rsz_rg g e s
  unfold ab_rri
  split
  · split
    · omega
    · omega
  · split <;> omega
theorem bb_l51 {K : ab_Kt} {D : Nat → Int → Int} {L : Nat → Int → Int64} {z : ab_Z} {c : Int} (hw : bb_WS c (D 501)) {e : Int} (e0 : 0 ≤ e) (e1 : e < D 501 3) (k a : Int) (k0 : 0 ≤ k) (k1 : k ≤ bb_R (D 501) e 3) (ha : a = ab_rall (D 501) e - ab_S (ab_rri (D 501) e) k) : ab_ev K 51 30 [some (.ref 500), some (.int (ab_I e)), some (.int (ab_I a)), some (.int (ab_I k))] [] (ab_mk D L z) = some (.inl (some (.int (ab_I (ab_rall (D 501) e - ab_S (ab_rri (D 501) e) (bb_R (D 501) e 3))))), (ab_mk D L z)) := by
  have m := hw.1
  have n := bb_WB_n (bb_WS_W hw e0 e1)
  have e6 : e < 6 := by omega
  have hal := ab_rall_rg (bb_WS_IR hw e0 e1)
  have hs := ab_Sge 0 k0 (fun i _ _ => (bb_rri_rg (g := D 501) (e := e) (s := i)).1)
  have hs2 := ab_Sle 16 k0 (fun i _ _ => (bb_rri_rg (g := D 501) (e := e) (s := i)).2)
  rw [ab_e51_30]
  by_cases hk : bb_R (D 501) e 3 ≤ k
  · simp (discharger := first | assumption | exact True.intro | exact not_false | (refine ab_gK ?_; with_unfolding_all rfl) | exact ab_rgI (by omega) (by omega) | omega) only [ab_y110, ab_e51_0, ab_e51_1, ab_e51_2, ab_e51_3, ab_e51_6, ab_e51_9, ab_e51_10, ab_e51_13, ab_e51_14, ab_e51_17, ab_e51_20, ab_e51_21, ab_e51_22, ab_e51_23, ab_e51_24, ab_e51_27, ab_e51_28, ab_e51_29, ab_e51_31, ab_e51_32, ab_e51_33, ab_e51_34, ab_e51_37, ab_e51_40, ab_e51_41, ab_e51_42, ab_e51_43, ab_e51_44, ab_e51_47, ab_e51_48, ab_e51_49, ab_e51_52, ab_e51_55, ab_e51_56, ab_br_t, ab_br_f, ab_re_v (ab_zz _), ab_re_n (ab_zz _)]
    exact ab_fin (by rw [ha, show k = bb_R (D 501) e 3 by omega]) rfl
  · simp (discharger := first | assumption | exact True.intro | exact not_false | (refine ab_gK ?_; with_unfolding_all rfl) | exact ab_rgI (by omega) (by omega) | omega) only [ab_y110, bb_y143 hw e0 e1 k0, ab_e51_0, ab_e51_1, ab_e51_2, ab_e51_3, ab_e51_6, ab_e51_9, ab_e51_10, ab_e51_13, ab_e51_14, ab_e51_17, ab_e51_20, ab_e51_21, ab_e51_22, ab_e51_23, ab_e51_24, ab_e51_27, ab_e51_28, ab_e51_29, ab_e51_31, ab_e51_32, ab_e51_33, ab_e51_34, ab_e51_37, ab_e51_40, ab_e51_41, ab_e51_42, ab_e51_43, ab_e51_44, ab_e51_47, ab_e51_48, ab_e51_49, ab_e51_52, ab_e51_55, ab_e51_56, ab_br_t, ab_br_f, ab_re_v (ab_zz _), ab_re_n (ab_zz _)]
    exact bb_l51 hw e0 e1 (k + 1) _ (by omega) (by omega) (by rw [ab_S1 _ k0, ha]; omega)
termination_by (bb_R (D 501) e 3 - k).toNat
decreasing_by all_goals omega

theorem bb_op50 {K : ab_Kt} {D : Nat → Int → Int} {L : Nat → Int → Int64} {z : ab_Z} {n : Int} (hn : n < 512) (h : bb_INV n D L z) {b : Int} (hb9r : ab_rg b) : bb_OP K n D L z 50 [.ref 17, .int (ab_I b), .ref 508] 51 [.ref 500, .int (ab_I b)] := by
  have hI := h
  obtain ⟨n1, ⟨hw, w2, w3⟩, hS9, hR9, h69, hT9, hL9, -⟩ := hI
  have n9 : 0 ≤ n ∧ n < 512 := ⟨n1.1, hn⟩
  have cm := bb_cc_mono n9
  have hsp := ab_sp0
  have hk := w2.1
  have m := bb_WS_n hw
  obtain ⟨⟨q2, q3, q4, q5, q6, q7, q8, q9⟩, kp, ka, kb, kn⟩ := id hk
  have hwE : bb_WS (bb_cc n) (bb_E D 501) := by rw [bb_E_501]; exact hw
  by_cases hx : 0 ≤ b ∧ b < D 501 3
  · skip
    have b0 := hx.1
    have b1 := hx.2
    have b6 : b < 6 := by omega
    have hbk := ab_bk_bI hsp b0 b6
    have kk := kb b b0 b1
    have hb9 := bb_WS_W hw b0 b1
    have hn9 := bb_WB_n hb9
    have hIB := bb_KS_IB hw hk b0 b1
    have hI := bb_WS_IR hw b0 b1
    have hIE : ab_IR (bb_E D 501) b := by rw [bb_E_501]; exact hI
    have b1E : b < bb_E D 501 3 := by rw [bb_E_501]; exact b1
    have hal := ab_rall_rg hI
    have hwr := ab_rwrong_rg hI
    have hmi := ab_rmiss_rg hI
    obtain ⟨⟨f0, f1, f2, f3, f4, f6⟩, f7, f5, -, -⟩ := id kk
    have fd := bb_nd_rg hb9 m.2.2.1.1
    have vrc : ab_S (ab_rc D (ab_bI 19 b)) (D (ab_bI 19 b) 3) = ab_S (ab_rri (D 501) b) (bb_R (D 501) b 3) := by rw [f3]; exact ab_Scongr (fun i a d => bb_v_rc kk hb9 a d)
    have h3E : 0 ≤ bb_R (bb_E D 501) b 3 := by rw [bb_E_501]; omega
    refine ⟨D, ab_u L 508 0 (ab_I (ab_rall (D 501) b - ab_S (ab_rri (D 501) b) (bb_R (D 501) b 3))).toInt64, z, bb_E D, 0, ab_rall (D 501) b - ab_S (ab_rri (D 501) b) (bb_R (D 501) b 3), ?_, ?_, by omega, ab_u_eq, fun _ => ab_u_eq, bb_INV_q hn h (fun i _ e => ab_u_row e) (fun k e => ab_u_ne (.inr e)) (fun i e => ab_u_row e) (.inl rfl), Nat.le_refl _, Nat.le_refl _⟩
    · simp (discharger := first | assumption | exact True.intro | exact not_false | (refine ab_gK ?_; with_unfolding_all rfl) | exact ab_rgI (by omega) (by omega) | omega) only [ab_a50, ab_a142, bb_y182 hw hk hb9r hx, ab_y213 hbk hIB, bb_v_all kk, vrc, ab_e50_0, ab_e50_1, ab_e50_2, ab_e50_3, ab_e50_4, ab_e50_7, ab_e50_8, ab_e50_9, ab_e50_12, ab_e50_13, ab_e50_14, ab_e50_15, ab_e50_16, ab_e142_0, ab_e142_1, ab_e142_2, ab_e142_5, ab_e142_8, ab_br_t, ab_br_f, ab_re_v (ab_zz _), ab_re_n (ab_zz _)]
    · simp (discharger := first | assumption | exact True.intro | exact not_false | (refine ab_gK ?_; with_unfolding_all rfl) | exact ab_rgI (by omega) (by omega) | omega) only [ab_a51, ab_y103, if_pos hx, bb_y92_0, bb_E_501, ab_y104 (D := bb_E D) b0 b6 hIE, ab_e51_0, ab_e51_1, ab_e51_2, ab_e51_3, ab_e51_6, ab_e51_9, ab_e51_10, ab_e51_13, ab_e51_14, ab_e51_17, ab_e51_20, ab_e51_21, ab_e51_22, ab_e51_23, ab_e51_24, ab_e51_27, ab_e51_28, ab_e51_29, ab_e51_31, ab_e51_32, ab_e51_33, ab_e51_34, ab_e51_37, ab_e51_40, ab_e51_41, ab_e51_42, ab_e51_43, ab_e51_44, ab_e51_47, ab_e51_48, ab_e51_49, ab_e51_52, ab_e51_55, ab_e51_56, ab_br_t, ab_br_f, ab_re_v (ab_zz _), ab_re_n (ab_zz _)]
      rw [← bb_E_501 (D := D)]
      exact bb_l51 (D := bb_E D) hwE b0 b1E 0 _ (by omega) (by omega) (by rw [ab_S0]; omega)
  · skip
    refine ⟨D, L, ab_zc (ab_zx z), ab_u D 500 7 1, 1, 0, ?_, ?_, by omega, ab_u_eq, fun x => absurd x (by omega), bb_INV_q hn h (fun i _ e => ab_u_row e) (fun k e => ab_u_ne (.inr e)) (fun i _ => rfl) (.inr rfl), Nat.le_succ _, Nat.le_add_right _ 6⟩
    · simp (discharger := first | assumption | exact True.intro | exact not_false | (refine ab_gK ?_; with_unfolding_all rfl) | exact ab_rgI (by omega) (by omega) | omega) only [ab_a50, ab_a142, bb_y182t hw hk hb9r hx, ab_re_t (M := 142) (pc := 2) (E := "java/lang/IndexOutOfBoundsException") (by rfl) (ab_zzx _), ab_re_h (M := 50) (pc := 4) (E := "java/lang/IndexOutOfBoundsException") (ph := 12) (by rfl) (ab_zzx _), ab_e50_0, ab_e50_1, ab_e50_2, ab_e50_3, ab_e50_4, ab_e50_7, ab_e50_8, ab_e50_9, ab_e50_12, ab_e50_13, ab_e50_14, ab_e50_15, ab_e50_16, ab_e142_0, ab_e142_1, ab_e142_2, ab_e142_5, ab_e142_8, ab_br_t, ab_br_f, ab_re_v (ab_zz _), ab_re_n (ab_zz _)]
    · simp (discharger := first | assumption | exact True.intro | exact not_false | (refine ab_gK ?_; with_unfolding_all rfl) | exact ab_rgI (by omega) (by omega) | omega) only [ab_a51, ab_y103, if_neg hx, bb_y92_1, ab_e51_0, ab_e51_1, ab_e51_2, ab_e51_3, ab_e51_6, ab_e51_9, ab_e51_10, ab_e51_13, ab_e51_14, ab_e51_17, ab_e51_20, ab_e51_21, ab_e51_22, ab_e51_23, ab_e51_24, ab_e51_27, ab_e51_28, ab_e51_29, ab_e51_30, ab_e51_31, ab_e51_32, ab_e51_33, ab_e51_34, ab_e51_37, ab_e51_40, ab_e51_41, ab_e51_42, ab_e51_43, ab_e51_44, ab_e51_47, ab_e51_48, ab_e51_49, ab_e51_52, ab_e51_55, ab_e51_56, ab_br_t, ab_br_f, ab_re_v (ab_zz _), ab_re_n (ab_zz _)]

theorem bb_l49 {K : ab_Kt} {D : Nat → Int → Int} {L : Nat → Int → Int64} {z : ab_Z} {c : Int} (hw : bb_WS c (D 501)) {e : Int} (e0 : 0 ≤ e) (e1 : e < D 501 3) (k : Int) (k0 : 0 ≤ k) (k1 : k ≤ ab_rall (D 501) e) (hf : ∀ q, 0 ≤ q → q < k → ab_rwr (D 501) e q ≠ 1) : ab_ev K 49 30 [some (.ref 500), some (.int (ab_I e)), some (.int (ab_I (ab_rall (D 501) e))), some (.int (ab_I k))] [] (ab_mk D L z) = ab_ev K 49 50 [some (.ref 500), some (.int (ab_I e)), some (.int (ab_I (ab_rall (D 501) e))), some (.int (ab_I (if ab_ff (ab_rwr (D 501) e) (ab_rall (D 501) e) = -1 then ab_rall (D 501) e else ab_ff (ab_rwr (D 501) e) (ab_rall (D 501) e))))] [] (ab_mk D L z) := by
  have m := hw.1
  have hI := bb_WS_IR hw e0 e1
  have e6 : e < 6 := by omega
  have hal := ab_rall_rg hI
  have hr2 := ab_rwr_rg (D 501) e k
  rw [ab_e49_30]
  by_cases hk : ab_rall (D 501) e ≤ k
  · rw [ab_ff_no hal.1 (by rw [show ab_rall (D 501) e = k by omega]; exact hf), if_pos rfl]
    simp (discharger := first | assumption | exact True.intro | exact not_false | (refine ab_gK ?_; with_unfolding_all rfl) | exact ab_rgI (by omega) (by omega) | omega) only [ab_e49_0, ab_e49_1, ab_e49_2, ab_e49_3, ab_e49_6, ab_e49_9, ab_e49_10, ab_e49_13, ab_e49_14, ab_e49_17, ab_e49_20, ab_e49_21, ab_e49_22, ab_e49_23, ab_e49_24, ab_e49_27, ab_e49_28, ab_e49_29, ab_e49_31, ab_e49_32, ab_e49_35, ab_e49_36, ab_e49_37, ab_e49_38, ab_e49_41, ab_e49_44, ab_e49_47, ab_e49_51, ab_e49_52, ab_e49_53, ab_e49_56, ab_e49_57, ab_e49_60, ab_e49_61, ab_e49_64, ab_e49_67, ab_e49_68, ab_e49_71, ab_e49_72, ab_br_t, ab_br_f, ab_re_v (ab_zz _), ab_re_n (ab_zz _)]
    rw [show k = ab_rall (D 501) e by omega]
  · by_cases hd : ab_rwr (D 501) e k = 1
    · rw [ab_ff_at k0 (by omega) hf hd, if_neg (by omega)]
      simp (discharger := first | assumption | exact True.intro | exact not_false | (refine ab_gK ?_; with_unfolding_all rfl) | exact ab_rgI (by omega) (by omega) | omega) only [ab_y141 e0 e6 hI, ab_e49_0, ab_e49_1, ab_e49_2, ab_e49_3, ab_e49_6, ab_e49_9, ab_e49_10, ab_e49_13, ab_e49_14, ab_e49_17, ab_e49_20, ab_e49_21, ab_e49_22, ab_e49_23, ab_e49_24, ab_e49_27, ab_e49_28, ab_e49_29, ab_e49_31, ab_e49_32, ab_e49_35, ab_e49_36, ab_e49_37, ab_e49_38, ab_e49_41, ab_e49_44, ab_e49_47, ab_e49_51, ab_e49_52, ab_e49_53, ab_e49_56, ab_e49_57, ab_e49_60, ab_e49_61, ab_e49_64, ab_e49_67, ab_e49_68, ab_e49_71, ab_e49_72, ab_br_t, ab_br_f, ab_re_v (ab_zz _), ab_re_n (ab_zz _)]
    · have hf2 : ∀ q, 0 ≤ q → q < k + 1 → ab_rwr (D 501) e q ≠ 1 := by
        intro q q0 q1
        by_cases hq : q = k
        · rw [hq]; exact hd
        · exact hf q q0 (by omega)
      have ih := bb_l49 (K := K) (L := L) (z := z) hw e0 e1 (k + 1) (by omega) (by omega) hf2
      simp (discharger := first | assumption | exact True.intro | exact not_false | (refine ab_gK ?_; with_unfolding_all rfl) | exact ab_rgI (by omega) (by omega) | omega) only [ab_y141 e0 e6 hI, ab_e49_0, ab_e49_1, ab_e49_2, ab_e49_3, ab_e49_6, ab_e49_9, ab_e49_10, ab_e49_13, ab_e49_14, ab_e49_17, ab_e49_20, ab_e49_21, ab_e49_22, ab_e49_23, ab_e49_24, ab_e49_27, ab_e49_28, ab_e49_29, ab_e49_31, ab_e49_32, ab_e49_35, ab_e49_36, ab_e49_37, ab_e49_38, ab_e49_41, ab_e49_44, ab_e49_47, ab_e49_51, ab_e49_52, ab_e49_53, ab_e49_56, ab_e49_57, ab_e49_60, ab_e49_61, ab_e49_64, ab_e49_67, ab_e49_68, ab_e49_71, ab_e49_72, ab_br_t, ab_br_f, ab_re_v (ab_zz _), ab_re_n (ab_zz _)]
      exact ih
termination_by (ab_rall (D 501) e - k).toNat
decreasing_by all_goals omega

theorem bb_E_E {D : Nat → Int → Int} : bb_E (bb_E D) = bb_E D := bb_E_u
theorem bb_op48 {K : ab_Kt} {D : Nat → Int → Int} {L : Nat → Int → Int64} {z : ab_Z} {n : Int} (hn : n < 512) (h : bb_INV n D L z) {b : Int} (hb9r : ab_rg b) : bb_OP K n D L z 48 [.ref 17, .int (ab_I b), .ref 508] 49 [.ref 500, .int (ab_I b)] := by
  have hI := h
  obtain ⟨n1, ⟨hw, w2, w3⟩, hS9, hR9, h69, hT9, hL9, -⟩ := hI
  have n9 : 0 ≤ n ∧ n < 512 := ⟨n1.1, hn⟩
  have cm := bb_cc_mono n9
  have hsp := ab_sp0
  have hk := w2.1
  have m := bb_WS_n hw
  obtain ⟨⟨q2, q3, q4, q5, q6, q7, q8, q9⟩, kp, ka, kb, kn⟩ := id hk
  have hwE : bb_WS (bb_cc n) (bb_E D 501) := by rw [bb_E_501]; exact hw
  by_cases hx : 0 ≤ b ∧ b < D 501 3
  · skip
    have b0 := hx.1
    have b1 := hx.2
    have b6 : b < 6 := by omega
    have hbk := ab_bk_bI hsp b0 b6
    have kk := kb b b0 b1
    have hb9 := bb_WS_W hw b0 b1
    have hn9 := bb_WB_n hb9
    have hIB := bb_KS_IB hw hk b0 b1
    have hI := bb_WS_IR hw b0 b1
    have hIE : ab_IR (bb_E D 501) b := by rw [bb_E_501]; exact hI
    have b1E : b < bb_E D 501 3 := by rw [bb_E_501]; exact b1
    have hal := ab_rall_rg hI
    have hwr := ab_rwrong_rg hI
    have hmi := ab_rmiss_rg hI
    obtain ⟨⟨f0, f1, f2, f3, f4, f6⟩, f7, f5, -, -⟩ := id kk
    have fd := bb_nd_rg hb9 m.2.2.1.1
    have hal0 : 0 ≤ ab_rall (bb_E D 501) b := by rw [bb_E_501]; omega
    have hfw : ab_ff (bb_fw D L (ab_bI 19 b) 0) (ab_all D (ab_bI 19 b)) = ab_ff (ab_rwr (D 501) b) (ab_rall (D 501) b) := by
      rw [bb_v_all kk]
      refine ab_ff_congr hal.1 (fun i a d => ?_)
      have e9 := ab_rwr_rg (D 501) b i
      unfold bb_fw
      rw [bb_v_wr kk hb9]
      by_cases hq : ab_rwr (D 501) b i = 1
      · rw [if_pos ⟨hq, fun x => absurd x.1 (by decide)⟩, hq]
      · rw [if_neg (fun x => hq x.1)]; omega
    have l49 := fun (L9 : Nat → Int → Int64) (z9 : ab_Z) => bb_l49 (K := K) (D := bb_E D) (L := L9) (z := z9) hwE b0 b1E 0 (by omega) hal0 (fun q _ _ => by omega)
    simp only [bb_E_501] at l49
    have hfr := ab_ff_rg (g := ab_rwr (D 501) b) hal.1
    by_cases hf : ab_ff (ab_rwr (D 501) b) (ab_rall (D 501) b) = -1
    · skip
      refine ⟨D, L, ab_zc (ab_zx z), ab_u D 500 7 2, 2, 0, ?_, ?_, by omega, ab_u_eq, fun x => absurd x (by omega), bb_INV_q hn h (fun i _ e => ab_u_row e) (fun k e => ab_u_ne (.inr e)) (fun i _ => rfl) (.inr rfl), Nat.le_succ _, Nat.le_add_right _ 6⟩
      · simp (discharger := first | assumption | exact True.intro | exact not_false | (refine ab_gK ?_; with_unfolding_all rfl) | exact ab_rgI (by omega) (by omega) | omega) only [ab_a48, ab_a140, bb_y182 hw hk hb9r hx, bb_y212 hbk hIB (.inl rfl), hfw, hf, ab_re_h (M := 48) (pc := 4) (E := "java/util/NoSuchElementException") (ph := 15) (by rfl) (ab_zzx _), ab_e48_0, ab_e48_1, ab_e48_2, ab_e48_3, ab_e48_4, ab_e48_7, ab_e48_8, ab_e48_9, ab_e48_12, ab_e48_13, ab_e48_14, ab_e48_15, ab_e48_16, ab_e48_17, ab_e48_18, ab_e48_19, ab_e140_0, ab_e140_1, ab_e140_2, ab_e140_5, ab_e140_6, ab_e140_9, ab_e140_10, ab_e140_11, ab_e140_12, ab_e140_15, ab_e140_23, ab_e140_24, ab_br_t, ab_br_f, ab_re_v (ab_zz _), ab_re_n (ab_zz _)]
      · simp (discharger := first | assumption | exact True.intro | exact not_false | (refine ab_gK ?_; with_unfolding_all rfl) | exact ab_rgI (by omega) (by omega) | omega) only [ab_a49, ab_y103, if_pos hx, bb_y92_0, ab_y104 (D := bb_E D) b0 b6 hIE, l49, bb_y92_2, bb_E_501, if_pos hf, bb_E_u, ab_e49_0, ab_e49_1, ab_e49_2, ab_e49_3, ab_e49_6, ab_e49_9, ab_e49_10, ab_e49_13, ab_e49_14, ab_e49_17, ab_e49_20, ab_e49_21, ab_e49_22, ab_e49_23, ab_e49_24, ab_e49_27, ab_e49_28, ab_e49_29, ab_e49_31, ab_e49_32, ab_e49_35, ab_e49_36, ab_e49_37, ab_e49_38, ab_e49_41, ab_e49_44, ab_e49_47, ab_e49_50, ab_e49_51, ab_e49_52, ab_e49_53, ab_e49_56, ab_e49_57, ab_e49_60, ab_e49_61, ab_e49_64, ab_e49_67, ab_e49_68, ab_e49_71, ab_e49_72, ab_br_t, ab_br_f, ab_re_v (ab_zz _), ab_re_n (ab_zz _)]
    · skip
      refine ⟨D, ab_u L 508 0 (ab_I (ab_ff (ab_rwr (D 501) b) (ab_rall (D 501) b))).toInt64, z, bb_E D, 0, ab_ff (ab_rwr (D 501) b) (ab_rall (D 501) b), ?_, ?_, by omega, ab_u_eq, fun _ => ab_u_eq, bb_INV_q hn h (fun i _ e => ab_u_row e) (fun k e => ab_u_ne (.inr e)) (fun i e => ab_u_row e) (.inl rfl), Nat.le_refl _, Nat.le_refl _⟩
      · simp (discharger := first | assumption | exact True.intro | exact not_false | (refine ab_gK ?_; with_unfolding_all rfl) | exact ab_rgI (by omega) (by omega) | omega) only [ab_a48, ab_a140, bb_y182 hw hk hb9r hx, bb_y212 hbk hIB (.inl rfl), hfw, ab_e48_0, ab_e48_1, ab_e48_2, ab_e48_3, ab_e48_4, ab_e48_7, ab_e48_8, ab_e48_9, ab_e48_12, ab_e48_13, ab_e48_14, ab_e48_15, ab_e48_16, ab_e48_17, ab_e48_18, ab_e48_19, ab_e140_0, ab_e140_1, ab_e140_2, ab_e140_5, ab_e140_6, ab_e140_9, ab_e140_10, ab_e140_11, ab_e140_12, ab_e140_15, ab_e140_23, ab_e140_24, ab_br_t, ab_br_f, ab_re_v (ab_zz _), ab_re_n (ab_zz _)]
      · simp (discharger := first | assumption | exact True.intro | exact not_false | (refine ab_gK ?_; with_unfolding_all rfl) | exact ab_rgI (by omega) (by omega) | omega) only [ab_a49, ab_y103, if_pos hx, bb_y92_0, ab_y104 (D := bb_E D) b0 b6 hIE, l49, bb_E_501, if_neg hf, bb_E_E, ab_e49_0, ab_e49_1, ab_e49_2, ab_e49_3, ab_e49_6, ab_e49_9, ab_e49_10, ab_e49_13, ab_e49_14, ab_e49_17, ab_e49_20, ab_e49_21, ab_e49_22, ab_e49_23, ab_e49_24, ab_e49_27, ab_e49_28, ab_e49_29, ab_e49_31, ab_e49_32, ab_e49_35, ab_e49_36, ab_e49_37, ab_e49_38, ab_e49_41, ab_e49_44, ab_e49_47, ab_e49_50, ab_e49_51, ab_e49_52, ab_e49_53, ab_e49_56, ab_e49_57, ab_e49_60, ab_e49_61, ab_e49_64, ab_e49_67, ab_e49_68, ab_e49_71, ab_e49_72, ab_br_t, ab_br_f, ab_re_v (ab_zz _), ab_re_n (ab_zz _)]
  · skip
    refine ⟨D, L, ab_zc (ab_zx z), ab_u D 500 7 1, 1, 0, ?_, ?_, by omega, ab_u_eq, fun x => absurd x (by omega), bb_INV_q hn h (fun i _ e => ab_u_row e) (fun k e => ab_u_ne (.inr e)) (fun i _ => rfl) (.inr rfl), Nat.le_succ _, Nat.le_add_right _ 6⟩
    · simp (discharger := first | assumption | exact True.intro | exact not_false | (refine ab_gK ?_; with_unfolding_all rfl) | exact ab_rgI (by omega) (by omega) | omega) only [ab_a48, ab_a140, bb_y182t hw hk hb9r hx, ab_re_t (M := 140) (pc := 2) (E := "java/lang/IndexOutOfBoundsException") (by rfl) (ab_zzx _), ab_re_h (M := 48) (pc := 4) (E := "java/lang/IndexOutOfBoundsException") (ph := 12) (by rfl) (ab_zzx _), ab_e48_0, ab_e48_1, ab_e48_2, ab_e48_3, ab_e48_4, ab_e48_7, ab_e48_8, ab_e48_9, ab_e48_12, ab_e48_13, ab_e48_14, ab_e48_15, ab_e48_16, ab_e48_17, ab_e48_18, ab_e48_19, ab_e140_0, ab_e140_1, ab_e140_2, ab_e140_5, ab_e140_6, ab_e140_9, ab_e140_10, ab_e140_11, ab_e140_12, ab_e140_15, ab_e140_23, ab_e140_24, ab_br_t, ab_br_f, ab_re_v (ab_zz _), ab_re_n (ab_zz _)]
    · simp (discharger := first | assumption | exact True.intro | exact not_false | (refine ab_gK ?_; with_unfolding_all rfl) | exact ab_rgI (by omega) (by omega) | omega) only [ab_a49, ab_y103, if_neg hx, bb_y92_1, ab_e49_0, ab_e49_1, ab_e49_2, ab_e49_3, ab_e49_6, ab_e49_9, ab_e49_10, ab_e49_13, ab_e49_14, ab_e49_17, ab_e49_20, ab_e49_21, ab_e49_22, ab_e49_23, ab_e49_24, ab_e49_27, ab_e49_28, ab_e49_29, ab_e49_30, ab_e49_31, ab_e49_32, ab_e49_35, ab_e49_36, ab_e49_37, ab_e49_38, ab_e49_41, ab_e49_44, ab_e49_47, ab_e49_50, ab_e49_51, ab_e49_52, ab_e49_53, ab_e49_56, ab_e49_57, ab_e49_60, ab_e49_61, ab_e49_64, ab_e49_67, ab_e49_68, ab_e49_71, ab_e49_72, ab_br_t, ab_br_f, ab_re_v (ab_zz _), ab_re_n (ab_zz _)]

def bb_mg (g : Int → Int) (e a j : Int) : Int := if ab_rcw g e (j + 1) = 0 ∧ ab_S (ab_rmm g e) j = a then 1 else 0
def bb_mp (g : Int → Int) (e a : Int) : Int := if ab_ff (bb_mg g e a) (bb_R g e 0) = -1 then -1 else ab_ff (bb_mg g e a) (bb_R g e 0) + 1
theorem bb_mp_rg {g : Int → Int} {e : Int} (h : 0 ≤ bb_R g e 0) (a : Int) : bb_mp g e a = -1 ∨ (1 ≤ bb_mp g e a ∧ bb_mp g e a ≤ bb_R g e 0) := by
  have := ab_ff_rg (g := bb_mg g e a) h
  unfold bb_mp
  split
  · exact .inl rfl
  · omega
theorem bb_v_mp {D : Nat → Int → Int} {L : Nat → Int → Int64} {b : Nat} {g : Int → Int} {e mn : Int} (hk : bb_KB D L b g e mn) (hn : 0 ≤ bb_R g e 0) (a : Int) : ab_mp9 D b a = bb_mp g e a := by
  have hS : ∀ j, ab_S (ab_mm D b) j = ab_S (ab_rmm g e) j := fun j => ab_Scongr (fun i _ _ => bb_v_mm hk i)
  have hg : ab_ff (ab_mg D b a) (bb_R g e 0) = ab_ff (bb_mg g e a) (bb_R g e 0) := ab_ff_congr hn (fun i _ _ => by unfold ab_mg bb_mg; rw [bb_v_cw hk, hS])
  unfold ab_mp9 bb_mp
  rw [hk.1.1, hg]
theorem bb_l45 {K : ab_Kt} {D : Nat → Int → Int} {L : Nat → Int → Int64} {z : ab_Z} {e : Int} (e0 : 0 ≤ e) (e6 : e < 6) (hI : ab_IR (D 501) e) {a : Int} (ha : ab_rg a) (j c p : Int) (j0 : 0 ≤ j) (j1 : j ≤ bb_R (D 501) e 0) (hp : p = j + 1) (hc : c = ab_S (ab_rmm (D 501) e) j) (hf : ∀ i, 0 ≤ i → i < j → bb_mg (D 501) e a i ≠ 1) : ab_ev K 45 27 [some (.ref 500), some (.int (ab_I e)), some (.int (ab_I a)), some (.int (ab_I c)), some (.int (ab_I p))] [] (ab_mk D L z) = if bb_mp (D 501) e a = -1 then some (.inl (some (.int (ab_I (0)))), ab_mk (ab_u D 500 7 2) L z) else some (.inl (some (.int (ab_I (bb_mp (D 501) e a)))), (ab_mk D L z)) := by
  have n := ab_IR_n hI
  have hs := ab_rmmS_rg (D 501) e j0
  have hcw := ab_rcw_rg hI p
  have hcj : ab_rmm (D 501) e j = if ab_rcw (D 501) e p = 0 then 1 else 0 := by rw [hp]; rfl
  have hgj : bb_mg (D 501) e a j = if ab_rcw (D 501) e p = 0 ∧ c = a then 1 else 0 := by rw [hp, hc]; rfl
  rw [ab_e45_27]
  by_cases hk : bb_R (D 501) e 0 ≤ j
  · have hno : ab_ff (bb_mg (D 501) e a) (bb_R (D 501) e 0) = -1 := ab_ff_no n.1.1 (fun i i0 i1 => hf i i0 (by omega))
    rw [show bb_mp (D 501) e a = -1 from if_pos hno, if_pos rfl]
    simp (discharger := first | assumption | exact True.intro | exact not_false | (refine ab_gK ?_; with_unfolding_all rfl) | exact ab_rgI (by omega) (by omega) | omega) only [ab_y110, ab_e45_0, ab_e45_1, ab_e45_2, ab_e45_3, ab_e45_6, ab_e45_9, ab_e45_10, ab_e45_13, ab_e45_14, ab_e45_17, ab_e45_20, ab_e45_21, ab_e45_22, ab_e45_23, ab_e45_24, ab_e45_25, ab_e45_29, ab_e45_30, ab_e45_31, ab_e45_32, ab_e45_35, ab_e45_38, ab_e45_39, ab_e45_40, ab_e45_42, ab_e45_45, ab_e45_48, ab_e45_51, ab_e45_52, ab_e45_53, ab_e45_56, ab_e45_58, ab_e45_59, ab_e45_62, ab_e45_65, ab_e45_68, ab_e45_69, ab_e45_70, ab_e45_73, ab_e45_74, ab_br_t, ab_br_f, ab_re_v (ab_zz _), ab_re_n (ab_zz _)]
  · by_cases h0 : ab_rcw (D 501) e p = 0
    · by_cases hca : c = a
      · rw [if_pos ⟨h0, hca⟩] at hgj
        have hff : ab_ff (bb_mg (D 501) e a) (bb_R (D 501) e 0) = j := ab_ff_at j0 (by omega) hf hgj
        have hmp : bb_mp (D 501) e a = p := by
          unfold bb_mp
          rw [hff, if_neg (by omega), hp]
        rw [hmp, if_neg (by omega)]
        simp (discharger := first | assumption | exact True.intro | exact not_false | (refine ab_gK ?_; with_unfolding_all rfl) | exact ab_rgI (by omega) (by omega) | omega) only [ab_y110, ab_y136 e0 e6 hI, ab_e45_0, ab_e45_1, ab_e45_2, ab_e45_3, ab_e45_6, ab_e45_9, ab_e45_10, ab_e45_13, ab_e45_14, ab_e45_17, ab_e45_20, ab_e45_21, ab_e45_22, ab_e45_23, ab_e45_24, ab_e45_25, ab_e45_29, ab_e45_30, ab_e45_31, ab_e45_32, ab_e45_35, ab_e45_38, ab_e45_39, ab_e45_40, ab_e45_42, ab_e45_45, ab_e45_48, ab_e45_51, ab_e45_52, ab_e45_53, ab_e45_56, ab_e45_58, ab_e45_59, ab_e45_62, ab_e45_65, ab_e45_68, ab_e45_69, ab_e45_70, ab_e45_73, ab_e45_74, ab_br_t, ab_br_f, ab_re_v (ab_zz _), ab_re_n (ab_zz _)]
      · rw [if_neg (fun x => hca x.2)] at hgj
        rw [if_pos h0] at hcj
        have ih := bb_l45 (K := K) (L := L) (z := z) e0 e6 hI ha (j + 1) (c + 1) (p + 1) (by omega) (by omega) (by omega) (by rw [ab_S1 _ j0, hc, hcj]) (fun i i0 i1 => by
          by_cases hi : i = j
          · rw [hi, hgj]; decide
          · exact hf i i0 (by omega))
        simp (discharger := first | assumption | exact True.intro | exact not_false | (refine ab_gK ?_; with_unfolding_all rfl) | exact ab_rgI (by omega) (by omega) | omega) only [ab_y110, ab_y136 e0 e6 hI, ab_e45_0, ab_e45_1, ab_e45_2, ab_e45_3, ab_e45_6, ab_e45_9, ab_e45_10, ab_e45_13, ab_e45_14, ab_e45_17, ab_e45_20, ab_e45_21, ab_e45_22, ab_e45_23, ab_e45_24, ab_e45_25, ab_e45_29, ab_e45_30, ab_e45_31, ab_e45_32, ab_e45_35, ab_e45_38, ab_e45_39, ab_e45_40, ab_e45_42, ab_e45_45, ab_e45_48, ab_e45_51, ab_e45_52, ab_e45_53, ab_e45_56, ab_e45_58, ab_e45_59, ab_e45_62, ab_e45_65, ab_e45_68, ab_e45_69, ab_e45_70, ab_e45_73, ab_e45_74, ab_br_t, ab_br_f, ab_re_v (ab_zz _), ab_re_n (ab_zz _)]
        exact ih
    · rw [if_neg (fun x => h0 x.1)] at hgj
      rw [if_neg h0] at hcj
      have ih := bb_l45 (K := K) (L := L) (z := z) e0 e6 hI ha (j + 1) c (p + 1) (by omega) (by omega) (by omega) (by rw [ab_S1 _ j0, hc, hcj, Int.add_zero]) (fun i i0 i1 => by
        by_cases hi : i = j
        · rw [hi, hgj]; decide
        · exact hf i i0 (by omega))
      simp (discharger := first | assumption | exact True.intro | exact not_false | (refine ab_gK ?_; with_unfolding_all rfl) | exact ab_rgI (by omega) (by omega) | omega) only [ab_y110, ab_y136 e0 e6 hI, ab_e45_0, ab_e45_1, ab_e45_2, ab_e45_3, ab_e45_6, ab_e45_9, ab_e45_10, ab_e45_13, ab_e45_14, ab_e45_17, ab_e45_20, ab_e45_21, ab_e45_22, ab_e45_23, ab_e45_24, ab_e45_25, ab_e45_29, ab_e45_30, ab_e45_31, ab_e45_32, ab_e45_35, ab_e45_38, ab_e45_39, ab_e45_40, ab_e45_42, ab_e45_45, ab_e45_48, ab_e45_51, ab_e45_52, ab_e45_53, ab_e45_56, ab_e45_58, ab_e45_59, ab_e45_62, ab_e45_65, ab_e45_68, ab_e45_69, ab_e45_70, ab_e45_73, ab_e45_74, ab_br_t, ab_br_f, ab_re_v (ab_zz _), ab_re_n (ab_zz _)]
      exact ih
termination_by (bb_R (D 501) e 0 - j).toNat
decreasing_by all_goals omega

theorem bb_op44 {K : ab_Kt} {D : Nat → Int → Int} {L : Nat → Int → Int64} {z : ab_Z} {n : Int} (hn : n < 512) (h : bb_INV n D L z) {b p : Int} (hb9r : ab_rg b) (hp9r : ab_rg p) : bb_OP K n D L z 44 [.ref 17, .int (ab_I b), .int (ab_I p), .ref 508] 45 [.ref 500, .int (ab_I b), .int (ab_I p)] := by
  have hI := h
  obtain ⟨n1, ⟨hw, w2, w3⟩, hS9, hR9, h69, hT9, hL9, -⟩ := hI
  have n9 : 0 ≤ n ∧ n < 512 := ⟨n1.1, hn⟩
  have cm := bb_cc_mono n9
  have hsp := ab_sp0
  have hk := w2.1
  have m := bb_WS_n hw
  obtain ⟨⟨q2, q3, q4, q5, q6, q7, q8, q9⟩, kp, ka, kb, kn⟩ := id hk
  have hwE : bb_WS (bb_cc n) (bb_E D 501) := by rw [bb_E_501]; exact hw
  by_cases hx : 0 ≤ b ∧ b < D 501 3
  · skip
    have b0 := hx.1
    have b1 := hx.2
    have b6 : b < 6 := by omega
    have hbk := ab_bk_bI hsp b0 b6
    have kk := kb b b0 b1
    have hb9 := bb_WS_W hw b0 b1
    have hn9 := bb_WB_n hb9
    have hIB := bb_KS_IB hw hk b0 b1
    have hI := bb_WS_IR hw b0 b1
    have hIE : ab_IR (bb_E D 501) b := by rw [bb_E_501]; exact hI
    have b1E : b < bb_E D 501 3 := by rw [bb_E_501]; exact b1
    have hal := ab_rall_rg hI
    have hwr := ab_rwrong_rg hI
    have hmi := ab_rmiss_rg hI
    obtain ⟨⟨f0, f1, f2, f3, f4, f6⟩, f7, f5, -, -⟩ := id kk
    have fd := bb_nd_rg hb9 m.2.2.1.1
    have hmr := bb_mp_rg (g := D 501) (e := b) hn9.1.1 p
    have h0E : 0 ≤ bb_R (bb_E D 501) b 0 := by rw [bb_E_501]; omega
    have l45 := fun (L9 : Nat → Int → Int64) (z9 : ab_Z) => bb_l45 (K := K) (D := bb_E D) (L := L9) (z := z9) b0 b6 hIE hp9r 0 0 1 (by omega) h0E rfl rfl (fun q _ _ => by omega)
    simp only [bb_E_501] at l45
    by_cases hf : bb_mp (D 501) b p = -1
    · skip
      refine ⟨D, L, ab_zc (ab_zx z), ab_u D 500 7 2, 2, 0, ?_, ?_, by omega, ab_u_eq, fun x => absurd x (by omega), bb_INV_q hn h (fun i _ e => ab_u_row e) (fun k e => ab_u_ne (.inr e)) (fun i _ => rfl) (.inr rfl), Nat.le_succ _, Nat.le_add_right _ 6⟩
      · simp (discharger := first | assumption | exact True.intro | exact not_false | (refine ab_gK ?_; with_unfolding_all rfl) | exact ab_rgI (by omega) (by omega) | omega) only [ab_a44, ab_a137, bb_y182 hw hk hb9r hx, ab_y210 hbk hIB hp9r, bb_v_mp kk hn9.1.1, hf, ab_re_h (M := 44) (pc := 5) (E := "java/util/NoSuchElementException") (ph := 17) (by rfl) (ab_zzx _), ab_e44_0, ab_e44_1, ab_e44_2, ab_e44_3, ab_e44_4, ab_e44_5, ab_e44_8, ab_e44_9, ab_e44_10, ab_e44_13, ab_e44_15, ab_e44_16, ab_e44_17, ab_e44_19, ab_e44_20, ab_e44_21, ab_e44_22, ab_e137_0, ab_e137_1, ab_e137_2, ab_e137_5, ab_e137_6, ab_e137_9, ab_e137_10, ab_e137_11, ab_e137_12, ab_e137_15, ab_e137_23, ab_e137_24, ab_br_t, ab_br_f, ab_re_v (ab_zz _), ab_re_n (ab_zz _)]
      · simp (discharger := first | assumption | exact True.intro | exact not_false | (refine ab_gK ?_; with_unfolding_all rfl) | exact ab_rgI (by omega) (by omega) | omega) only [ab_a45, ab_y103, if_pos hx, bb_y92_0, l45, bb_E_501, if_pos hf, bb_E_u, ab_e45_0, ab_e45_1, ab_e45_2, ab_e45_3, ab_e45_6, ab_e45_9, ab_e45_10, ab_e45_13, ab_e45_14, ab_e45_17, ab_e45_20, ab_e45_21, ab_e45_22, ab_e45_23, ab_e45_24, ab_e45_25, ab_e45_29, ab_e45_30, ab_e45_31, ab_e45_32, ab_e45_35, ab_e45_38, ab_e45_39, ab_e45_40, ab_e45_42, ab_e45_45, ab_e45_48, ab_e45_51, ab_e45_52, ab_e45_53, ab_e45_56, ab_e45_58, ab_e45_59, ab_e45_62, ab_e45_65, ab_e45_68, ab_e45_69, ab_e45_70, ab_e45_73, ab_e45_74, ab_br_t, ab_br_f, ab_re_v (ab_zz _), ab_re_n (ab_zz _)]
    · skip
      refine ⟨D, ab_u L 508 0 (ab_I (bb_mp (D 501) b p)).toInt64, z, bb_E D, 0, bb_mp (D 501) b p, ?_, ?_, by omega, ab_u_eq, fun _ => ab_u_eq, bb_INV_q hn h (fun i _ e => ab_u_row e) (fun k e => ab_u_ne (.inr e)) (fun i e => ab_u_row e) (.inl rfl), Nat.le_refl _, Nat.le_refl _⟩
      · simp (discharger := first | assumption | exact True.intro | exact not_false | (refine ab_gK ?_; with_unfolding_all rfl) | exact ab_rgI (by omega) (by omega) | omega) only [ab_a44, ab_a137, bb_y182 hw hk hb9r hx, ab_y210 hbk hIB hp9r, bb_v_mp kk hn9.1.1, ab_e44_0, ab_e44_1, ab_e44_2, ab_e44_3, ab_e44_4, ab_e44_5, ab_e44_8, ab_e44_9, ab_e44_10, ab_e44_13, ab_e44_15, ab_e44_16, ab_e44_17, ab_e44_19, ab_e44_20, ab_e44_21, ab_e44_22, ab_e137_0, ab_e137_1, ab_e137_2, ab_e137_5, ab_e137_6, ab_e137_9, ab_e137_10, ab_e137_11, ab_e137_12, ab_e137_15, ab_e137_23, ab_e137_24, ab_br_t, ab_br_f, ab_re_v (ab_zz _), ab_re_n (ab_zz _)]
      · simp (discharger := first | assumption | exact True.intro | exact not_false | (refine ab_gK ?_; with_unfolding_all rfl) | exact ab_rgI (by omega) (by omega) | omega) only [ab_a45, ab_y103, if_pos hx, bb_y92_0, l45, bb_E_501, if_neg hf, ab_e45_0, ab_e45_1, ab_e45_2, ab_e45_3, ab_e45_6, ab_e45_9, ab_e45_10, ab_e45_13, ab_e45_14, ab_e45_17, ab_e45_20, ab_e45_21, ab_e45_22, ab_e45_23, ab_e45_24, ab_e45_25, ab_e45_29, ab_e45_30, ab_e45_31, ab_e45_32, ab_e45_35, ab_e45_38, ab_e45_39, ab_e45_40, ab_e45_42, ab_e45_45, ab_e45_48, ab_e45_51, ab_e45_52, ab_e45_53, ab_e45_56, ab_e45_58, ab_e45_59, ab_e45_62, ab_e45_65, ab_e45_68, ab_e45_69, ab_e45_70, ab_e45_73, ab_e45_74, ab_br_t, ab_br_f, ab_re_v (ab_zz _), ab_re_n (ab_zz _)]
  · skip
    refine ⟨D, L, ab_zc (ab_zx z), ab_u D 500 7 1, 1, 0, ?_, ?_, by omega, ab_u_eq, fun x => absurd x (by omega), bb_INV_q hn h (fun i _ e => ab_u_row e) (fun k e => ab_u_ne (.inr e)) (fun i _ => rfl) (.inr rfl), Nat.le_succ _, Nat.le_add_right _ 6⟩
    · simp (discharger := first | assumption | exact True.intro | exact not_false | (refine ab_gK ?_; with_unfolding_all rfl) | exact ab_rgI (by omega) (by omega) | omega) only [ab_a44, ab_a137, bb_y182t hw hk hb9r hx, ab_re_t (M := 137) (pc := 2) (E := "java/lang/IndexOutOfBoundsException") (by rfl) (ab_zzx _), ab_re_h (M := 44) (pc := 5) (E := "java/lang/IndexOutOfBoundsException") (ph := 13) (by rfl) (ab_zzx _), ab_e44_0, ab_e44_1, ab_e44_2, ab_e44_3, ab_e44_4, ab_e44_5, ab_e44_8, ab_e44_9, ab_e44_10, ab_e44_13, ab_e44_15, ab_e44_16, ab_e44_17, ab_e44_19, ab_e44_20, ab_e44_21, ab_e44_22, ab_e137_0, ab_e137_1, ab_e137_2, ab_e137_5, ab_e137_6, ab_e137_9, ab_e137_10, ab_e137_11, ab_e137_12, ab_e137_15, ab_e137_23, ab_e137_24, ab_br_t, ab_br_f, ab_re_v (ab_zz _), ab_re_n (ab_zz _)]
    · simp (discharger := first | assumption | exact True.intro | exact not_false | (refine ab_gK ?_; with_unfolding_all rfl) | exact ab_rgI (by omega) (by omega) | omega) only [ab_a45, ab_y103, if_neg hx, bb_y92_1, ab_e45_0, ab_e45_1, ab_e45_2, ab_e45_3, ab_e45_6, ab_e45_9, ab_e45_10, ab_e45_13, ab_e45_14, ab_e45_17, ab_e45_20, ab_e45_21, ab_e45_22, ab_e45_23, ab_e45_24, ab_e45_25, ab_e45_27, ab_e45_29, ab_e45_30, ab_e45_31, ab_e45_32, ab_e45_35, ab_e45_38, ab_e45_39, ab_e45_40, ab_e45_42, ab_e45_45, ab_e45_48, ab_e45_51, ab_e45_52, ab_e45_53, ab_e45_56, ab_e45_58, ab_e45_59, ab_e45_62, ab_e45_65, ab_e45_68, ab_e45_69, ab_e45_70, ab_e45_73, ab_e45_74, ab_br_t, ab_br_f, ab_re_v (ab_zz _), ab_re_n (ab_zz _)]

def bb_tw (g : Int → Int) (e j : Int) : Int := if 2 ≤ ab_rcw g e (j + 1) then 1 else 0
theorem bb_tw_rg {g : Int → Int} {e j : Int} : 0 ≤ bb_tw g e j ∧ bb_tw g e j ≤ 1 := by unfold bb_tw; split <;> omega
theorem bb_cw_hi {g : Int → Int} {e q : Int} (hI : ab_IR g e) (hq : 114 < q) : ab_rcw g e q = 0 := by
  have n := ab_IR_n hI
  have h1 : ab_rcw g e q ≤ 0 * bb_R g e 3 := ab_Sle 0 (by omega) (fun i a d => by
    have := ab_IR_a hI a (by omega)
    have := ab_rsz_rg g e i
    rw [if_neg (by omega)]; omega)
  have h2 := (ab_rcw_rg hI q).1
  omega
theorem bb_v_tw {D : Nat → Int → Int} {L : Nat → Int → Int64} {b : Nat} {g : Int → Int} {e mn : Int} (hk : bb_KB D L b g e mn) (hI : ab_IR g e) : ab_S (ab_tw D b) 114 = ab_S (bb_tw g e) 119 := by
  have h1 : ab_S (ab_tw D b) 114 = ab_S (bb_tw g e) 114 := ab_Scongr (fun i _ _ => by unfold ab_tw bb_tw; rw [bb_v_cw hk])
  have h0 : ∀ j, 114 ≤ j → bb_tw g e j = 0 := fun j hj => by
    unfold bb_tw
    rw [bb_cw_hi hI (by omega), if_neg (by decide)]
  have s5 : ab_S (bb_tw g e) 119 = ab_S (bb_tw g e) 118 + bb_tw g e 118 := ab_S1 (n := 118) _ (by omega)
  have s4 : ab_S (bb_tw g e) 118 = ab_S (bb_tw g e) 117 + bb_tw g e 117 := ab_S1 (n := 117) _ (by omega)
  have s3 : ab_S (bb_tw g e) 117 = ab_S (bb_tw g e) 116 + bb_tw g e 116 := ab_S1 (n := 116) _ (by omega)
  have s2 : ab_S (bb_tw g e) 116 = ab_S (bb_tw g e) 115 + bb_tw g e 115 := ab_S1 (n := 115) _ (by omega)
  have s1 : ab_S (bb_tw g e) 115 = ab_S (bb_tw g e) 114 + bb_tw g e 114 := ab_S1 (n := 114) _ (by omega)
  rw [h1, s5, s4, s3, s2, s1, h0 118 (by omega), h0 117 (by omega), h0 116 (by omega), h0 115 (by omega), h0 114 (by omega)]
  omega
theorem bb_l43 {K : ab_Kt} {D : Nat → Int → Int} {L : Nat → Int → Int64} {z : ab_Z} {e : Int} (e0 : 0 ≤ e) (e6 : e < 6) (hI : ab_IR (D 501) e) (j a p : Int) (j0 : 0 ≤ j) (j1 : j ≤ 119) (hp : p = j + 1) (ha : a = ab_S (bb_tw (D 501) e) j) : ab_ev K 43 26 [some (.ref 500), some (.int (ab_I e)), some (.int (ab_I a)), some (.int (ab_I p))] [] (ab_mk D L z) = some (.inl (some (.int (ab_I (ab_S (bb_tw (D 501) e) 119)))), (ab_mk D L z)) := by
  have n := ab_IR_n hI
  have hcw := ab_rcw_rg hI p
  have hcj : bb_tw (D 501) e j = if 2 ≤ ab_rcw (D 501) e p then 1 else 0 := by rw [hp]; rfl
  have hs := ab_Sge 0 j0 (fun i _ _ => (bb_tw_rg (g := D 501) (e := e) (j := i)).1)
  have hs2 := ab_Sle 1 j0 (fun i _ _ => (bb_tw_rg (g := D 501) (e := e) (j := i)).2)
  rw [ab_e43_26]
  by_cases hk : 119 ≤ j
  · simp (discharger := first | assumption | exact True.intro | exact not_false | (refine ab_gK ?_; with_unfolding_all rfl) | exact ab_rgI (by omega) (by omega) | omega) only [ab_y110, ab_e43_0, ab_e43_1, ab_e43_2, ab_e43_3, ab_e43_6, ab_e43_9, ab_e43_10, ab_e43_13, ab_e43_14, ab_e43_17, ab_e43_20, ab_e43_21, ab_e43_22, ab_e43_23, ab_e43_24, ab_e43_25, ab_e43_27, ab_e43_29, ab_e43_32, ab_e43_33, ab_e43_34, ab_e43_35, ab_e43_36, ab_e43_39, ab_e43_40, ab_e43_43, ab_e43_44, ab_e43_47, ab_e43_48, ab_e43_49, ab_e43_50, ab_e43_53, ab_e43_56, ab_e43_57, ab_br_t, ab_br_f, ab_re_v (ab_zz _), ab_re_n (ab_zz _)]
    exact ab_fin (by rw [ha, show j = 119 by omega]) rfl
  · by_cases h2 : 2 ≤ ab_rcw (D 501) e p
    · rw [if_pos h2] at hcj
      simp (discharger := first | assumption | exact True.intro | exact not_false | (refine ab_gK ?_; with_unfolding_all rfl) | exact ab_rgI (by omega) (by omega) | omega) only [ab_y110, ab_y136 e0 e6 hI, ab_e43_0, ab_e43_1, ab_e43_2, ab_e43_3, ab_e43_6, ab_e43_9, ab_e43_10, ab_e43_13, ab_e43_14, ab_e43_17, ab_e43_20, ab_e43_21, ab_e43_22, ab_e43_23, ab_e43_24, ab_e43_25, ab_e43_27, ab_e43_29, ab_e43_32, ab_e43_33, ab_e43_34, ab_e43_35, ab_e43_36, ab_e43_39, ab_e43_40, ab_e43_43, ab_e43_44, ab_e43_47, ab_e43_48, ab_e43_49, ab_e43_50, ab_e43_53, ab_e43_56, ab_e43_57, ab_br_t, ab_br_f, ab_re_v (ab_zz _), ab_re_n (ab_zz _)]
      exact bb_l43 e0 e6 hI (j + 1) _ _ (by omega) (by omega) (by omega) (by rw [ab_S1 _ j0, ha, hcj])
    · rw [if_neg h2] at hcj
      simp (discharger := first | assumption | exact True.intro | exact not_false | (refine ab_gK ?_; with_unfolding_all rfl) | exact ab_rgI (by omega) (by omega) | omega) only [ab_y110, ab_y136 e0 e6 hI, ab_e43_0, ab_e43_1, ab_e43_2, ab_e43_3, ab_e43_6, ab_e43_9, ab_e43_10, ab_e43_13, ab_e43_14, ab_e43_17, ab_e43_20, ab_e43_21, ab_e43_22, ab_e43_23, ab_e43_24, ab_e43_25, ab_e43_27, ab_e43_29, ab_e43_32, ab_e43_33, ab_e43_34, ab_e43_35, ab_e43_36, ab_e43_39, ab_e43_40, ab_e43_43, ab_e43_44, ab_e43_47, ab_e43_48, ab_e43_49, ab_e43_50, ab_e43_53, ab_e43_56, ab_e43_57, ab_br_t, ab_br_f, ab_re_v (ab_zz _), ab_re_n (ab_zz _)]
      exact bb_l43 e0 e6 hI (j + 1) _ _ (by omega) (by omega) (by omega) (by rw [ab_S1 _ j0, ha, hcj])
termination_by (119 - j).toNat
decreasing_by all_goals omega

theorem bb_op42 {K : ab_Kt} {D : Nat → Int → Int} {L : Nat → Int → Int64} {z : ab_Z} {n : Int} (hn : n < 512) (h : bb_INV n D L z) {b : Int} (hb9r : ab_rg b) : bb_OP K n D L z 42 [.ref 17, .int (ab_I b), .ref 508] 43 [.ref 500, .int (ab_I b)] := by
  have hI := h
  obtain ⟨n1, ⟨hw, w2, w3⟩, hS9, hR9, h69, hT9, hL9, -⟩ := hI
  have n9 : 0 ≤ n ∧ n < 512 := ⟨n1.1, hn⟩
  have cm := bb_cc_mono n9
  have hsp := ab_sp0
  have hk := w2.1
  have m := bb_WS_n hw
  obtain ⟨⟨q2, q3, q4, q5, q6, q7, q8, q9⟩, kp, ka, kb, kn⟩ := id hk
  have hwE : bb_WS (bb_cc n) (bb_E D 501) := by rw [bb_E_501]; exact hw
  by_cases hx : 0 ≤ b ∧ b < D 501 3
  · skip
    have b0 := hx.1
    have b1 := hx.2
    have b6 : b < 6 := by omega
    have hbk := ab_bk_bI hsp b0 b6
    have kk := kb b b0 b1
    have hb9 := bb_WS_W hw b0 b1
    have hn9 := bb_WB_n hb9
    have hIB := bb_KS_IB hw hk b0 b1
    have hI := bb_WS_IR hw b0 b1
    have hIE : ab_IR (bb_E D 501) b := by rw [bb_E_501]; exact hI
    have b1E : b < bb_E D 501 3 := by rw [bb_E_501]; exact b1
    have hal := ab_rall_rg hI
    have hwr := ab_rwrong_rg hI
    have hmi := ab_rmiss_rg hI
    obtain ⟨⟨f0, f1, f2, f3, f4, f6⟩, f7, f5, -, -⟩ := id kk
    have fd := bb_nd_rg hb9 m.2.2.1.1
    have l43 := fun (L9 : Nat → Int → Int64) (z9 : ab_Z) => bb_l43 (K := K) (D := bb_E D) (L := L9) (z := z9) b0 b6 hIE 0 0 1 (by omega) (by omega) rfl rfl
    simp only [bb_E_501] at l43
    refine ⟨D, ab_u L 508 0 (ab_I (ab_S (bb_tw (D 501) b) 119)).toInt64, z, bb_E D, 0, ab_S (bb_tw (D 501) b) 119, ?_, ?_, by omega, ab_u_eq, fun _ => ab_u_eq, bb_INV_q hn h (fun i _ e => ab_u_row e) (fun k e => ab_u_ne (.inr e)) (fun i e => ab_u_row e) (.inl rfl), Nat.le_refl _, Nat.le_refl _⟩
    · simp (discharger := first | assumption | exact True.intro | exact not_false | (refine ab_gK ?_; with_unfolding_all rfl) | exact ab_rgI (by omega) (by omega) | omega) only [ab_a42, ab_a135, bb_y182 hw hk hb9r hx, ab_y209 hbk hIB, bb_v_tw kk hI, ab_e42_0, ab_e42_1, ab_e42_2, ab_e42_3, ab_e42_4, ab_e42_7, ab_e42_8, ab_e42_9, ab_e42_12, ab_e42_13, ab_e42_14, ab_e42_15, ab_e42_16, ab_e135_0, ab_e135_1, ab_e135_2, ab_e135_5, ab_e135_8, ab_br_t, ab_br_f, ab_re_v (ab_zz _), ab_re_n (ab_zz _)]
    · simp (discharger := first | assumption | exact True.intro | exact not_false | (refine ab_gK ?_; with_unfolding_all rfl) | exact ab_rgI (by omega) (by omega) | omega) only [ab_a43, ab_y103, if_pos hx, bb_y92_0, bb_E_501, l43, ab_e43_0, ab_e43_1, ab_e43_2, ab_e43_3, ab_e43_6, ab_e43_9, ab_e43_10, ab_e43_13, ab_e43_14, ab_e43_17, ab_e43_20, ab_e43_21, ab_e43_22, ab_e43_23, ab_e43_24, ab_e43_25, ab_e43_27, ab_e43_29, ab_e43_32, ab_e43_33, ab_e43_34, ab_e43_35, ab_e43_36, ab_e43_39, ab_e43_40, ab_e43_43, ab_e43_44, ab_e43_47, ab_e43_48, ab_e43_49, ab_e43_50, ab_e43_53, ab_e43_56, ab_e43_57, ab_br_t, ab_br_f, ab_re_v (ab_zz _), ab_re_n (ab_zz _)]
  · skip
    refine ⟨D, L, ab_zc (ab_zx z), ab_u D 500 7 1, 1, 0, ?_, ?_, by omega, ab_u_eq, fun x => absurd x (by omega), bb_INV_q hn h (fun i _ e => ab_u_row e) (fun k e => ab_u_ne (.inr e)) (fun i _ => rfl) (.inr rfl), Nat.le_succ _, Nat.le_add_right _ 6⟩
    · simp (discharger := first | assumption | exact True.intro | exact not_false | (refine ab_gK ?_; with_unfolding_all rfl) | exact ab_rgI (by omega) (by omega) | omega) only [ab_a42, ab_a135, bb_y182t hw hk hb9r hx, ab_re_t (M := 135) (pc := 2) (E := "java/lang/IndexOutOfBoundsException") (by rfl) (ab_zzx _), ab_re_h (M := 42) (pc := 4) (E := "java/lang/IndexOutOfBoundsException") (ph := 12) (by rfl) (ab_zzx _), ab_e42_0, ab_e42_1, ab_e42_2, ab_e42_3, ab_e42_4, ab_e42_7, ab_e42_8, ab_e42_9, ab_e42_12, ab_e42_13, ab_e42_14, ab_e42_15, ab_e42_16, ab_e135_0, ab_e135_1, ab_e135_2, ab_e135_5, ab_e135_8, ab_br_t, ab_br_f, ab_re_v (ab_zz _), ab_re_n (ab_zz _)]
    · simp (discharger := first | assumption | exact True.intro | exact not_false | (refine ab_gK ?_; with_unfolding_all rfl) | exact ab_rgI (by omega) (by omega) | omega) only [ab_a43, ab_y103, if_neg hx, bb_y92_1, ab_e43_0, ab_e43_1, ab_e43_2, ab_e43_3, ab_e43_6, ab_e43_9, ab_e43_10, ab_e43_13, ab_e43_14, ab_e43_17, ab_e43_20, ab_e43_21, ab_e43_22, ab_e43_23, ab_e43_24, ab_e43_25, ab_e43_26, ab_e43_27, ab_e43_29, ab_e43_32, ab_e43_33, ab_e43_34, ab_e43_35, ab_e43_36, ab_e43_39, ab_e43_40, ab_e43_43, ab_e43_44, ab_e43_47, ab_e43_48, ab_e43_49, ab_e43_50, ab_e43_53, ab_e43_56, ab_e43_57, ab_br_t, ab_br_f, ab_re_v (ab_zz _), ab_re_n (ab_zz _)]

def bb_pa (g : Int → Int) (e s o : Int) : Int := if bb_R g e (7 + 3 * o + 0) - bb_R g e (7 + 3 * s + 0) < 0 ∨ (bb_R g e (7 + 3 * o + 0) - bb_R g e (7 + 3 * s + 0) = 0 ∧ o < s) then 1 else 0
theorem bb_pa_rg {g : Int → Int} {e s j : Int} : 0 ≤ bb_pa g e s j ∧ bb_pa g e s j ≤ 1 := by unfold bb_pa; split <;> omega
theorem bb_v_pa {D : Nat → Int → Int} {L : Nat → Int → Int64} {b : Nat} {g : Int → Int} {e mn : Int} (hk : bb_KB D L b g e mn) {s : Int} (s0 : 0 ≤ s) (s1 : s < bb_R g e 3) : ab_S (ab_pa D b s) (D b 3) = ab_S (bb_pa g e s) (bb_R g e 3) := by
  rw [hk.1.2.2.2.1]
  refine ab_Scongr (fun i a d => ?_)
  unfold ab_pa bb_pa
  rw [(hk.2.2.2.1 i a d).1, (hk.2.2.2.1 s s0 s1).1]
  by_cases h : bb_R g e (7 + 3 * i + 0) < bb_R g e (7 + 3 * s + 0) ∨ bb_R g e (7 + 3 * i + 0) = bb_R g e (7 + 3 * s + 0) ∧ i < s
  · rw [if_pos h, if_pos (by omega)]
  · rw [if_neg h, if_neg (by omega)]
theorem bb_l41 {K : ab_Kt} {D : Nat → Int → Int} {L : Nat → Int → Int64} {z : ab_Z} {e : Int} (e0 : 0 ≤ e) (e6 : e < 6) (hI : ab_IR (D 501) e) {s : Int} (s0 : 0 ≤ s) (s1 : s < bb_R (D 501) e 3) (o a : Int) (x5 : Option Value) (o0 : 0 ≤ o) (o1 : o ≤ bb_R (D 501) e 3) (ha : a = ab_S (bb_pa (D 501) e s) o) : ab_ev K 41 36 [some (.ref 500), some (.int (ab_I e)), some (.int (ab_I s)), some (.int (ab_I a)), some (.int (ab_I o)), x5] [] (ab_mk D L z) = some (.inl (some (.int (ab_I (ab_S (bb_pa (D 501) e s) (bb_R (D 501) e 3))))), (ab_mk D L z)) := by
  have n := ab_IR_n hI
  have hs := ab_Sge 0 o0 (fun i _ _ => (bb_pa_rg (g := D 501) (e := e) (s := s) (j := i)).1)
  have hs2 := ab_Sle 1 o0 (fun i _ _ => (bb_pa_rg (g := D 501) (e := e) (s := s) (j := i)).2)
  have as := ab_IR_a hI s0 (by omega)
  rw [ab_e41_36]
  by_cases hk : bb_R (D 501) e 3 ≤ o
  · simp (discharger := first | assumption | exact True.intro | exact not_false | (refine ab_gK ?_; with_unfolding_all rfl) | exact ab_rgI (by omega) (by omega) | omega) only [ab_y110, ab_e41_0, ab_e41_1, ab_e41_2, ab_e41_3, ab_e41_6, ab_e41_9, ab_e41_10, ab_e41_11, ab_e41_12, ab_e41_15, ab_e41_18, ab_e41_19, ab_e41_22, ab_e41_23, ab_e41_26, ab_e41_29, ab_e41_30, ab_e41_31, ab_e41_32, ab_e41_33, ab_e41_34, ab_e41_38, ab_e41_39, ab_e41_40, ab_e41_41, ab_e41_44, ab_e41_47, ab_e41_48, ab_e41_49, ab_e41_51, ab_e41_52, ab_e41_55, ab_e41_56, ab_e41_57, ab_e41_58, ab_e41_59, ab_e41_62, ab_e41_63, ab_e41_65, ab_e41_66, ab_e41_68, ab_e41_71, ab_e41_73, ab_e41_76, ab_e41_78, ab_e41_79, ab_e41_82, ab_e41_83, ab_e41_86, ab_e41_87, ab_e41_88, ab_e41_89, ab_e41_92, ab_e41_95, ab_e41_96, ab_br_t, ab_br_f, ab_re_v (ab_zz _), ab_re_n (ab_zz _)]
    exact ab_fin (by rw [ha, show o = bb_R (D 501) e 3 by omega]) rfl
  · have ao := ab_IR_a hI o0 (by omega)
    have hcj : bb_pa (D 501) e s o = if bb_R (D 501) e (7 + 3 * o + 0) - bb_R (D 501) e (7 + 3 * s + 0) < 0 ∨ (bb_R (D 501) e (7 + 3 * o + 0) - bb_R (D 501) e (7 + 3 * s + 0) = 0 ∧ o < s) then 1 else 0 := rfl
    simp (discharger := first | assumption | exact True.intro | exact not_false | (refine ab_gK ?_; with_unfolding_all rfl) | exact ab_rgI (by omega) (by omega) | omega) only [ab_y110, ab_y111 e0 e6, ab_e41_0, ab_e41_1, ab_e41_2, ab_e41_3, ab_e41_6, ab_e41_9, ab_e41_10, ab_e41_11, ab_e41_12, ab_e41_15, ab_e41_18, ab_e41_19, ab_e41_22, ab_e41_23, ab_e41_26, ab_e41_29, ab_e41_30, ab_e41_31, ab_e41_32, ab_e41_33, ab_e41_34, ab_e41_38, ab_e41_39, ab_e41_40, ab_e41_41, ab_e41_44, ab_e41_47, ab_e41_48, ab_e41_49, ab_e41_51, ab_e41_52, ab_e41_55, ab_e41_56, ab_e41_57, ab_e41_58, ab_e41_59, ab_e41_62, ab_e41_63, ab_e41_65, ab_e41_66, ab_e41_68, ab_e41_71, ab_e41_73, ab_e41_76, ab_e41_78, ab_e41_79, ab_e41_82, ab_e41_83, ab_e41_86, ab_e41_87, ab_e41_88, ab_e41_89, ab_e41_92, ab_e41_95, ab_e41_96, ab_br_t, ab_br_f, ab_re_v (ab_zz _), ab_re_n (ab_zz _)]
    iterate 3 (all_goals (try (refine ab_br_c (fun hc => ?_) (fun hc => ?_) <;> try simp (discharger := first | assumption | exact True.intro | exact not_false | (refine ab_gK ?_; with_unfolding_all rfl) | exact ab_rgI (by omega) (by omega) | omega) only [ab_y110, ab_y111 e0 e6, ab_e41_0, ab_e41_1, ab_e41_2, ab_e41_3, ab_e41_6, ab_e41_9, ab_e41_10, ab_e41_11, ab_e41_12, ab_e41_15, ab_e41_18, ab_e41_19, ab_e41_22, ab_e41_23, ab_e41_26, ab_e41_29, ab_e41_30, ab_e41_31, ab_e41_32, ab_e41_33, ab_e41_34, ab_e41_38, ab_e41_39, ab_e41_40, ab_e41_41, ab_e41_44, ab_e41_47, ab_e41_48, ab_e41_49, ab_e41_51, ab_e41_52, ab_e41_55, ab_e41_56, ab_e41_57, ab_e41_58, ab_e41_59, ab_e41_62, ab_e41_63, ab_e41_65, ab_e41_66, ab_e41_68, ab_e41_71, ab_e41_73, ab_e41_76, ab_e41_78, ab_e41_79, ab_e41_82, ab_e41_83, ab_e41_86, ab_e41_87, ab_e41_88, ab_e41_89, ab_e41_92, ab_e41_95, ab_e41_96, ab_br_t, ab_br_f, ab_re_v (ab_zz _), ab_re_n (ab_zz _)])))
    all_goals first | exact bb_l41 e0 e6 hI s0 s1 (o + 1) _ _ (by omega) (by omega) (by rw [ab_S1 _ o0, ha, hcj]; omega)
termination_by (bb_R (D 501) e 3 - o).toNat
decreasing_by all_goals omega

theorem bb_op40 {K : ab_Kt} {D : Nat → Int → Int} {L : Nat → Int → Int64} {z : ab_Z} {n : Int} (hn : n < 512) (h : bb_INV n D L z) {b p : Int} (hb9r : ab_rg b) (hp9r : ab_rg p) : bb_OP K n D L z 40 [.ref 17, .int (ab_I b), .int (ab_I p), .ref 508] 41 [.ref 500, .int (ab_I b), .int (ab_I p)] := by
  have hI := h
  obtain ⟨n1, ⟨hw, w2, w3⟩, hS9, hR9, h69, hT9, hL9, -⟩ := hI
  have n9 : 0 ≤ n ∧ n < 512 := ⟨n1.1, hn⟩
  have cm := bb_cc_mono n9
  have hsp := ab_sp0
  have hk := w2.1
  have m := bb_WS_n hw
  obtain ⟨⟨q2, q3, q4, q5, q6, q7, q8, q9⟩, kp, ka, kb, kn⟩ := id hk
  have hwE : bb_WS (bb_cc n) (bb_E D 501) := by rw [bb_E_501]; exact hw
  by_cases hxy : (0 ≤ b ∧ b < D 501 3) ∧ 0 ≤ p ∧ p < bb_R (D 501) b 3
  · have hx := hxy.1
    have hy := hxy.2
    have b0 := hx.1
    have b1 := hx.2
    have b6 : b < 6 := by omega
    have hbk := ab_bk_bI hsp b0 b6
    have kk := kb b b0 b1
    have hb9 := bb_WS_W hw b0 b1
    have hn9 := bb_WB_n hb9
    have hIB := bb_KS_IB hw hk b0 b1
    have hI := bb_WS_IR hw b0 b1
    have hIE : ab_IR (bb_E D 501) b := by rw [bb_E_501]; exact hI
    have b1E : b < bb_E D 501 3 := by rw [bb_E_501]; exact b1
    have hal := ab_rall_rg hI
    have hwr := ab_rwrong_rg hI
    have hmi := ab_rmiss_rg hI
    obtain ⟨⟨f0, f1, f2, f3, f4, f6⟩, f7, f5, -, -⟩ := id kk
    have fd := bb_nd_rg hb9 m.2.2.1.1
    have hy3 : p < D (ab_bI 19 b) 3 := by omega
    have hyE : p < bb_R (bb_E D 501) b 3 := by rw [bb_E_501]; exact hy.2
    have h3E : 0 ≤ bb_R (bb_E D 501) b 3 := by rw [bb_E_501]; omega
    have l41 := fun (L9 : Nat → Int → Int64) (z9 : ab_Z) => bb_l41 (K := K) (D := bb_E D) (L := L9) (z := z9) b0 b6 hIE hy.1 hyE 0 0 none (by omega) h3E rfl
    simp only [bb_E_501] at l41
    refine ⟨D, ab_u L 508 0 (ab_I (ab_S (bb_pa (D 501) b p) (bb_R (D 501) b 3))).toInt64, z, bb_E D, 0, ab_S (bb_pa (D 501) b p) (bb_R (D 501) b 3), ?_, ?_, by omega, ab_u_eq, fun _ => ab_u_eq, bb_INV_q hn h (fun i _ e => ab_u_row e) (fun k e => ab_u_ne (.inr e)) (fun i e => ab_u_row e) (.inl rfl), Nat.le_refl _, Nat.le_refl _⟩
    · simp (discharger := first | assumption | exact True.intro | exact not_false | (refine ab_gK ?_; with_unfolding_all rfl) | exact ab_rgI (by omega) (by omega) | omega) only [ab_a40, ab_a133, bb_y207 hw hk hb9r hp9r hx hy, ab_y208 hbk hIB hy.1 hy3, bb_v_pa kk hy.1 hy.2, ab_e40_0, ab_e40_1, ab_e40_2, ab_e40_3, ab_e40_4, ab_e40_5, ab_e40_8, ab_e40_9, ab_e40_10, ab_e40_13, ab_e40_15, ab_e40_16, ab_e40_17, ab_e40_18, ab_e133_0, ab_e133_1, ab_e133_2, ab_e133_3, ab_e133_6, ab_e133_7, ab_e133_10, ab_br_t, ab_br_f, ab_re_v (ab_zz _), ab_re_n (ab_zz _)]
    · simp (discharger := first | assumption | exact True.intro | exact not_false | (refine ab_gK ?_; with_unfolding_all rfl) | exact ab_rgI (by omega) (by omega) | omega) only [ab_a41, ab_y103, if_pos hx, ab_y134 b0 b6 hI, if_pos hy, bb_y92_0, l41, bb_E_501, ab_e41_0, ab_e41_1, ab_e41_2, ab_e41_3, ab_e41_6, ab_e41_9, ab_e41_10, ab_e41_11, ab_e41_12, ab_e41_15, ab_e41_18, ab_e41_19, ab_e41_22, ab_e41_23, ab_e41_26, ab_e41_29, ab_e41_30, ab_e41_31, ab_e41_32, ab_e41_33, ab_e41_34, ab_e41_38, ab_e41_39, ab_e41_40, ab_e41_41, ab_e41_44, ab_e41_47, ab_e41_48, ab_e41_49, ab_e41_51, ab_e41_52, ab_e41_55, ab_e41_56, ab_e41_57, ab_e41_58, ab_e41_59, ab_e41_62, ab_e41_63, ab_e41_65, ab_e41_66, ab_e41_68, ab_e41_71, ab_e41_73, ab_e41_76, ab_e41_78, ab_e41_79, ab_e41_82, ab_e41_83, ab_e41_86, ab_e41_87, ab_e41_88, ab_e41_89, ab_e41_92, ab_e41_95, ab_e41_96, ab_br_t, ab_br_f, ab_re_v (ab_zz _), ab_re_n (ab_zz _)]
  · by_cases hx : 0 ≤ b ∧ b < D 501 3
    · have hy : ¬ (0 ≤ p ∧ p < bb_R (D 501) b 3) := fun x => hxy ⟨hx, x⟩
      have b0 := hx.1
      have b1 := hx.2
      have b6 : b < 6 := by omega
      have hbk := ab_bk_bI hsp b0 b6
      have kk := kb b b0 b1
      have hb9 := bb_WS_W hw b0 b1
      have hn9 := bb_WB_n hb9
      have hIB := bb_KS_IB hw hk b0 b1
      have hI := bb_WS_IR hw b0 b1
      have hIE : ab_IR (bb_E D 501) b := by rw [bb_E_501]; exact hI
      have b1E : b < bb_E D 501 3 := by rw [bb_E_501]; exact b1
      have hal := ab_rall_rg hI
      have hwr := ab_rwrong_rg hI
      have hmi := ab_rmiss_rg hI
      obtain ⟨⟨f0, f1, f2, f3, f4, f6⟩, f7, f5, -, -⟩ := id kk
      have fd := bb_nd_rg hb9 m.2.2.1.1
      refine ⟨D, L, ab_zc (ab_zx z), ab_u D 500 7 1, 1, 0, ?_, ?_, by omega, ab_u_eq, fun x => absurd x (by omega), bb_INV_q hn h (fun i _ e => ab_u_row e) (fun k e => ab_u_ne (.inr e)) (fun i _ => rfl) (.inr rfl), Nat.le_succ _, Nat.le_add_right _ 6⟩
      · simp (discharger := first | assumption | exact True.intro | exact not_false | (refine ab_gK ?_; with_unfolding_all rfl) | exact ab_rgI (by omega) (by omega) | omega) only [ab_a40, ab_a133, bb_y207t hw hk hb9r hp9r hxy, ab_re_t (M := 133) (pc := 3) (E := "java/lang/IndexOutOfBoundsException") (by rfl) (ab_zzx _), ab_re_h (M := 40) (pc := 5) (E := "java/lang/IndexOutOfBoundsException") (ph := 13) (by rfl) (ab_zzx _), ab_e40_0, ab_e40_1, ab_e40_2, ab_e40_3, ab_e40_4, ab_e40_5, ab_e40_8, ab_e40_9, ab_e40_10, ab_e40_13, ab_e40_15, ab_e40_16, ab_e40_17, ab_e40_18, ab_e133_0, ab_e133_1, ab_e133_2, ab_e133_3, ab_e133_6, ab_e133_7, ab_e133_10, ab_br_t, ab_br_f, ab_re_v (ab_zz _), ab_re_n (ab_zz _)]
      · simp (discharger := first | assumption | exact True.intro | exact not_false | (refine ab_gK ?_; with_unfolding_all rfl) | exact ab_rgI (by omega) (by omega) | omega) only [ab_a41, ab_y103, if_pos hx, ab_y134 b0 b6 hI, if_neg hy, bb_y92_1, ab_e41_0, ab_e41_1, ab_e41_2, ab_e41_3, ab_e41_6, ab_e41_9, ab_e41_10, ab_e41_11, ab_e41_12, ab_e41_15, ab_e41_18, ab_e41_19, ab_e41_22, ab_e41_23, ab_e41_26, ab_e41_29, ab_e41_30, ab_e41_31, ab_e41_32, ab_e41_33, ab_e41_34, ab_e41_36, ab_e41_38, ab_e41_39, ab_e41_40, ab_e41_41, ab_e41_44, ab_e41_47, ab_e41_48, ab_e41_49, ab_e41_51, ab_e41_52, ab_e41_55, ab_e41_56, ab_e41_57, ab_e41_58, ab_e41_59, ab_e41_62, ab_e41_63, ab_e41_65, ab_e41_66, ab_e41_68, ab_e41_71, ab_e41_73, ab_e41_76, ab_e41_78, ab_e41_79, ab_e41_82, ab_e41_83, ab_e41_86, ab_e41_87, ab_e41_88, ab_e41_89, ab_e41_92, ab_e41_95, ab_e41_96, ab_br_t, ab_br_f, ab_re_v (ab_zz _), ab_re_n (ab_zz _)]
    · skip
      refine ⟨D, L, ab_zc (ab_zx z), ab_u D 500 7 1, 1, 0, ?_, ?_, by omega, ab_u_eq, fun x => absurd x (by omega), bb_INV_q hn h (fun i _ e => ab_u_row e) (fun k e => ab_u_ne (.inr e)) (fun i _ => rfl) (.inr rfl), Nat.le_succ _, Nat.le_add_right _ 6⟩
      · simp (discharger := first | assumption | exact True.intro | exact not_false | (refine ab_gK ?_; with_unfolding_all rfl) | exact ab_rgI (by omega) (by omega) | omega) only [ab_a40, ab_a133, bb_y207t hw hk hb9r hp9r hxy, ab_re_t (M := 133) (pc := 3) (E := "java/lang/IndexOutOfBoundsException") (by rfl) (ab_zzx _), ab_re_h (M := 40) (pc := 5) (E := "java/lang/IndexOutOfBoundsException") (ph := 13) (by rfl) (ab_zzx _), ab_e40_0, ab_e40_1, ab_e40_2, ab_e40_3, ab_e40_4, ab_e40_5, ab_e40_8, ab_e40_9, ab_e40_10, ab_e40_13, ab_e40_15, ab_e40_16, ab_e40_17, ab_e40_18, ab_e133_0, ab_e133_1, ab_e133_2, ab_e133_3, ab_e133_6, ab_e133_7, ab_e133_10, ab_br_t, ab_br_f, ab_re_v (ab_zz _), ab_re_n (ab_zz _)]
      · simp (discharger := first | assumption | exact True.intro | exact not_false | (refine ab_gK ?_; with_unfolding_all rfl) | exact ab_rgI (by omega) (by omega) | omega) only [ab_a41, ab_y103, if_neg hx, bb_y92_1, ab_e41_0, ab_e41_1, ab_e41_2, ab_e41_3, ab_e41_6, ab_e41_9, ab_e41_10, ab_e41_11, ab_e41_12, ab_e41_15, ab_e41_18, ab_e41_19, ab_e41_22, ab_e41_23, ab_e41_26, ab_e41_29, ab_e41_30, ab_e41_31, ab_e41_32, ab_e41_33, ab_e41_34, ab_e41_36, ab_e41_38, ab_e41_39, ab_e41_40, ab_e41_41, ab_e41_44, ab_e41_47, ab_e41_48, ab_e41_49, ab_e41_51, ab_e41_52, ab_e41_55, ab_e41_56, ab_e41_57, ab_e41_58, ab_e41_59, ab_e41_62, ab_e41_63, ab_e41_65, ab_e41_66, ab_e41_68, ab_e41_71, ab_e41_73, ab_e41_76, ab_e41_78, ab_e41_79, ab_e41_82, ab_e41_83, ab_e41_86, ab_e41_87, ab_e41_88, ab_e41_89, ab_e41_92, ab_e41_95, ab_e41_96, ab_br_t, ab_br_f, ab_re_v (ab_zz _), ab_re_n (ab_zz _)]

theorem bb_rthI_rg {g : Int → Int} {e s : Int} (hI : ab_IR g e) (s0 : 0 ≤ s) (s1 : s < 12) : 0 ≤ ab_rth g e s ∧ ab_rth g e s ≤ 30 := by
  have n := ab_IR_n hI
  have a := ab_IR_a hI s0 s1
  have e1 : bb_R g e 1 = 0 ∨ bb_R g e 1 = 1 ∨ bb_R g e 1 = 2 ∨ bb_R g e 1 = 3 ∨ bb_R g e 1 = 4 ∨ bb_R g e 1 = 5 := by omega
  unfold ab_rth
  rcases e1 with h | h | h | h | h | h <;> rw [h] <;> split <;> omega
theorem bb_l39 {K : ab_Kt} {D : Nat → Int → Int} {L : Nat → Int → Int64} {z : ab_Z} {e : Int} (e0 : 0 ≤ e) (e6 : e < 6) (hI : ab_IR (D 501) e) (s a : Int) (s0 : bb_R (D 501) e 4 ≤ s) (s1 : s ≤ bb_R (D 501) e 3) (ha : a = ab_S (ab_rth (D 501) e) s - ab_S (ab_rth (D 501) e) (bb_R (D 501) e 4)) : ab_ev K 39 31 [some (.ref 500), some (.int (ab_I e)), some (.int (ab_I a)), some (.int (ab_I s))] [] (ab_mk D L z) = some (.inl (some (.int (ab_I (ab_S (ab_rth (D 501) e) (bb_R (D 501) e 3) - ab_S (ab_rth (D 501) e) (bb_R (D 501) e 4))))), (ab_mk D L z)) := by
  have n := ab_IR_n hI
  have z0 : 0 ≤ s := by omega
  rw [ab_e39_31]
  by_cases hk : bb_R (D 501) e 3 ≤ s
  · simp (discharger := first | assumption | exact True.intro | exact not_false | (refine ab_gK ?_; with_unfolding_all rfl) | exact ab_rgI (by omega) (by omega) | omega) only [ab_y110, ab_e39_0, ab_e39_1, ab_e39_2, ab_e39_3, ab_e39_6, ab_e39_9, ab_e39_10, ab_e39_13, ab_e39_14, ab_e39_17, ab_e39_20, ab_e39_21, ab_e39_22, ab_e39_23, ab_e39_24, ab_e39_25, ab_e39_26, ab_e39_27, ab_e39_30, ab_e39_32, ab_e39_33, ab_e39_34, ab_e39_35, ab_e39_38, ab_e39_41, ab_e39_42, ab_e39_43, ab_e39_44, ab_e39_45, ab_e39_48, ab_e39_49, ab_e39_50, ab_e39_53, ab_e39_56, ab_e39_57, ab_br_t, ab_br_f, ab_re_v (ab_zz _), ab_re_n (ab_zz _)]
    exact ab_fin (by rw [ha, show s = bb_R (D 501) e 3 by omega]) rfl
  · skip
    simp (discharger := first | assumption | exact True.intro | exact not_false | (refine ab_gK ?_; with_unfolding_all rfl) | exact ab_rgI (by omega) (by omega) | omega) only [ab_y110, ab_y132 e0 e6 hI, ab_e39_0, ab_e39_1, ab_e39_2, ab_e39_3, ab_e39_6, ab_e39_9, ab_e39_10, ab_e39_13, ab_e39_14, ab_e39_17, ab_e39_20, ab_e39_21, ab_e39_22, ab_e39_23, ab_e39_24, ab_e39_25, ab_e39_26, ab_e39_27, ab_e39_30, ab_e39_32, ab_e39_33, ab_e39_34, ab_e39_35, ab_e39_38, ab_e39_41, ab_e39_42, ab_e39_43, ab_e39_44, ab_e39_45, ab_e39_48, ab_e39_49, ab_e39_50, ab_e39_53, ab_e39_56, ab_e39_57, ab_br_t, ab_br_f, ab_re_v (ab_zz _), ab_re_n (ab_zz _)]
    exact bb_l39 e0 e6 hI (s + 1) _ (by omega) (by omega) (by rw [ab_S1 _ z0, ha]; omega)
termination_by (bb_R (D 501) e 3 - s).toNat
decreasing_by all_goals omega

theorem bb_op38 {K : ab_Kt} {D : Nat → Int → Int} {L : Nat → Int → Int64} {z : ab_Z} {n : Int} (hn : n < 512) (h : bb_INV n D L z) {b : Int} (hb9r : ab_rg b) : bb_OP K n D L z 38 [.ref 17, .int (ab_I b), .ref 508] 39 [.ref 500, .int (ab_I b)] := by
  have hI := h
  obtain ⟨n1, ⟨hw, w2, w3⟩, hS9, hR9, h69, hT9, hL9, -⟩ := hI
  have n9 : 0 ≤ n ∧ n < 512 := ⟨n1.1, hn⟩
  have cm := bb_cc_mono n9
  have hsp := ab_sp0
  have hk := w2.1
  have m := bb_WS_n hw
  obtain ⟨⟨q2, q3, q4, q5, q6, q7, q8, q9⟩, kp, ka, kb, kn⟩ := id hk
  have hwE : bb_WS (bb_cc n) (bb_E D 501) := by rw [bb_E_501]; exact hw
  by_cases hx : 0 ≤ b ∧ b < D 501 3
  · skip
    have b0 := hx.1
    have b1 := hx.2
    have b6 : b < 6 := by omega
    have hbk := ab_bk_bI hsp b0 b6
    have kk := kb b b0 b1
    have hb9 := bb_WS_W hw b0 b1
    have hn9 := bb_WB_n hb9
    have hIB := bb_KS_IB hw hk b0 b1
    have hI := bb_WS_IR hw b0 b1
    have hIE : ab_IR (bb_E D 501) b := by rw [bb_E_501]; exact hI
    have b1E : b < bb_E D 501 3 := by rw [bb_E_501]; exact b1
    have hal := ab_rall_rg hI
    have hwr := ab_rwrong_rg hI
    have hmi := ab_rmiss_rg hI
    obtain ⟨⟨f0, f1, f2, f3, f4, f6⟩, f7, f5, -, -⟩ := id kk
    have fd := bb_nd_rg hb9 m.2.2.1.1
    have vth : ab_S (ab_th D (ab_bI 19 b)) (D (ab_bI 19 b) 3) - ab_S (ab_th D (ab_bI 19 b)) (D (ab_bI 19 b) 4) = ab_S (ab_rth (D 501) b) (bb_R (D 501) b 3) - ab_S (ab_rth (D 501) b) (bb_R (D 501) b 4) := by
      rw [f3, f4, ab_Scongr (fun i a d => bb_v_th kk a d), ab_Scongr (n := bb_R (D 501) b 4) (fun i a d => bb_v_th kk a (by omega))]
    have h3E : bb_R (bb_E D 501) b 4 ≤ bb_R (bb_E D 501) b 3 := by rw [bb_E_501]; omega
    have l39 := fun (L9 : Nat → Int → Int64) (z9 : ab_Z) => bb_l39 (K := K) (D := bb_E D) (L := L9) (z := z9) b0 b6 hIE _ 0 (Int.le_refl _) h3E (by omega)
    simp only [bb_E_501] at l39
    refine ⟨D, ab_u L 508 0 (ab_I (ab_S (ab_rth (D 501) b) (bb_R (D 501) b 3) - ab_S (ab_rth (D 501) b) (bb_R (D 501) b 4))).toInt64, z, bb_E D, 0, ab_S (ab_rth (D 501) b) (bb_R (D 501) b 3) - ab_S (ab_rth (D 501) b) (bb_R (D 501) b 4), ?_, ?_, by omega, ab_u_eq, fun _ => ab_u_eq, bb_INV_q hn h (fun i _ e => ab_u_row e) (fun k e => ab_u_ne (.inr e)) (fun i e => ab_u_row e) (.inl rfl), Nat.le_refl _, Nat.le_refl _⟩
    · simp (discharger := first | assumption | exact True.intro | exact not_false | (refine ab_gK ?_; with_unfolding_all rfl) | exact ab_rgI (by omega) (by omega) | omega) only [ab_a38, ab_a131, bb_y182 hw hk hb9r hx, ab_y206 hbk hIB, vth, ab_e38_0, ab_e38_1, ab_e38_2, ab_e38_3, ab_e38_4, ab_e38_7, ab_e38_8, ab_e38_9, ab_e38_12, ab_e38_13, ab_e38_14, ab_e38_15, ab_e38_16, ab_e131_0, ab_e131_1, ab_e131_2, ab_e131_5, ab_e131_8, ab_br_t, ab_br_f, ab_re_v (ab_zz _), ab_re_n (ab_zz _)]
    · simp (discharger := first | assumption | exact True.intro | exact not_false | (refine ab_gK ?_; with_unfolding_all rfl) | exact ab_rgI (by omega) (by omega) | omega) only [ab_a39, ab_y103, if_pos hx, bb_y92_0, bb_E_501, ab_y110, l39, ab_e39_0, ab_e39_1, ab_e39_2, ab_e39_3, ab_e39_6, ab_e39_9, ab_e39_10, ab_e39_13, ab_e39_14, ab_e39_17, ab_e39_20, ab_e39_21, ab_e39_22, ab_e39_23, ab_e39_24, ab_e39_25, ab_e39_26, ab_e39_27, ab_e39_30, ab_e39_32, ab_e39_33, ab_e39_34, ab_e39_35, ab_e39_38, ab_e39_41, ab_e39_42, ab_e39_43, ab_e39_44, ab_e39_45, ab_e39_48, ab_e39_49, ab_e39_50, ab_e39_53, ab_e39_56, ab_e39_57, ab_br_t, ab_br_f, ab_re_v (ab_zz _), ab_re_n (ab_zz _)]
  · skip
    refine ⟨D, L, ab_zc (ab_zx z), ab_u D 500 7 1, 1, 0, ?_, ?_, by omega, ab_u_eq, fun x => absurd x (by omega), bb_INV_q hn h (fun i _ e => ab_u_row e) (fun k e => ab_u_ne (.inr e)) (fun i _ => rfl) (.inr rfl), Nat.le_succ _, Nat.le_add_right _ 6⟩
    · simp (discharger := first | assumption | exact True.intro | exact not_false | (refine ab_gK ?_; with_unfolding_all rfl) | exact ab_rgI (by omega) (by omega) | omega) only [ab_a38, ab_a131, bb_y182t hw hk hb9r hx, ab_re_t (M := 131) (pc := 2) (E := "java/lang/IndexOutOfBoundsException") (by rfl) (ab_zzx _), ab_re_h (M := 38) (pc := 4) (E := "java/lang/IndexOutOfBoundsException") (ph := 12) (by rfl) (ab_zzx _), ab_e38_0, ab_e38_1, ab_e38_2, ab_e38_3, ab_e38_4, ab_e38_7, ab_e38_8, ab_e38_9, ab_e38_12, ab_e38_13, ab_e38_14, ab_e38_15, ab_e38_16, ab_e131_0, ab_e131_1, ab_e131_2, ab_e131_5, ab_e131_8, ab_br_t, ab_br_f, ab_re_v (ab_zz _), ab_re_n (ab_zz _)]
    · simp (discharger := first | assumption | exact True.intro | exact not_false | (refine ab_gK ?_; with_unfolding_all rfl) | exact ab_rgI (by omega) (by omega) | omega) only [ab_a39, ab_y103, if_neg hx, bb_y92_1, ab_e39_0, ab_e39_1, ab_e39_2, ab_e39_3, ab_e39_6, ab_e39_9, ab_e39_10, ab_e39_13, ab_e39_14, ab_e39_17, ab_e39_20, ab_e39_21, ab_e39_22, ab_e39_23, ab_e39_24, ab_e39_25, ab_e39_26, ab_e39_27, ab_e39_30, ab_e39_31, ab_e39_32, ab_e39_33, ab_e39_34, ab_e39_35, ab_e39_38, ab_e39_41, ab_e39_42, ab_e39_43, ab_e39_44, ab_e39_45, ab_e39_48, ab_e39_49, ab_e39_50, ab_e39_53, ab_e39_56, ab_e39_57, ab_br_t, ab_br_f, ab_re_v (ab_zz _), ab_re_n (ab_zz _)]

