/-! ===== the call line ===== -/
theorem bb_op18 {K : ab_Kt} {D : Nat → Int → Int} {L : Nat → Int → Int64} {z : ab_Z} {n : Int} (hn : n < 512) (h : bb_INV n D L z) {b : Int} (hb9r : ab_rg b) : bb_OP K n D L z 18 [.ref 17, .int (ab_I b), .ref 508] 19 [.ref 500, .int (ab_I b)] := by
  have hI := h
  obtain ⟨n1, ⟨hw, w2, w3⟩, hS9, hR9, h69, hT9, hL9, -⟩ := hI
  have n9 : 0 ≤ n ∧ n < 512 := ⟨n1.1, hn⟩
  have cm := bb_cc_mono n9
  have hsp := ab_sp0
  have hk := w2.1
  have m := bb_WS_n hw
  obtain ⟨⟨q2, q3, q4, q5, q6, q7, q8, q9⟩, kp, ka, kb, kn⟩ := id hk
  have hwE : bb_WS (bb_cc n) (bb_E D 501) := by rw [bb_E_501]; exact hw
  by_cases hx : 0 ≤ b ∧ b < D 501 3
  · skip
    have b0 := hx.1
    have b1 := hx.2
    have b6 : b < 6 := by omega
    have hbk := ab_bk_bI hsp b0 b6
    have kk := kb b b0 b1
    have hb9 := bb_WS_W hw b0 b1
    have hn9 := bb_WB_n hb9
    have hIB := bb_KS_IB hw hk b0 b1
    have hI := bb_WS_IR hw b0 b1
    have hIE : ab_IR (bb_E D 501) b := by rw [bb_E_501]; exact hI
    have b1E : b < bb_E D 501 3 := by rw [bb_E_501]; exact b1
    have hal := ab_rall_rg hI
    have hwr := ab_rwrong_rg hI
    have hmi := ab_rmiss_rg hI
    obtain ⟨⟨f0, f1, f2, f3, f4, f6⟩, f7, f5, -, -⟩ := id kk
    have fd := bb_nd_rg hb9 m.2.2.1.1
    have ks := kk.2.2.2.1
    have bl0 : bb_BL D (ab_bI 19 b) (D 501) b := ⟨by unfold ab_bI; omega, f3, f4, fun s s0 s1 => ⟨(ks s s0 s1).1, (ks s s0 s1).2.2.1, (ks s s0 s1).2.2.2⟩⟩
    obtain ⟨hSB, l15, l130, lcont⟩ := id hL9
    obtain ⟨D1, e1, s1, c1, l1⟩ := bb_y187 (K := K) (L := L) hSB
    obtain ⟨D2, z2, e2, s2, c2, l2⟩ := bb_y188 (K := K) (L := L) (x := b) (l := []) s1 c1 b0 (by omega) (by decide)
    have dl := bb_dg_le b
    obtain ⟨D3, z3, e3, s3, c3, l3⟩ := bb_y189 (K := K) (L := L) (x := 58) (l := [] ++ bb_dg b) s2 c2 (by decide) (by decide) (by simp only [List.nil_append]; omega)
    have l13 := bb_LF_trans (bb_LF_trans l1 l2) l3
    obtain ⟨D4, z4, e4, s4, c4, l4⟩ := bb_l107 (K := K) hb9 hbk 0 D3 L z3 (by omega) s3 c3 (bb_BL_fr bl0 (bb_LF_r l13))
    rw [show ((0 : Nat) : Int) = 0 from rfl] at e4
    have lf := bb_LF_trans l13 l4
    have h1 := bb_LF_z l1
    have h2 := bb_LF_z l2
    have h3 := bb_LF_z l3
    have h4 := bb_LF_z l4
    have hh := bb_LF_z lf
    obtain ⟨M1, hM1⟩ : ∃ M1, M1 = ab_u (bb_E D4) 500 15 0 := ⟨_, rfl⟩
    have r1 : ∀ i, i ≠ 500 → M1 i = D4 i := fun i a => by rw [hM1, ab_u_row a, show bb_E D4 i = _ from ab_u_row a]
    have p1 : ∀ k, k ≠ 7 → k ≠ 15 → M1 500 k = D4 500 k := fun k a c => by rw [hM1, ab_u_ne (.inr c), bb_E_500 a]
    have p7 : M1 500 7 = 0 := by rw [hM1, ab_u_ne (.inr (by decide))]; exact ab_u_eq
    have p15 : M1 500 15 = 0 := by rw [hM1, ab_u_eq]
    have d501 : D4 501 = D 501 := lf.1 501 (by decide) (by decide) (by decide)
    have m501 : M1 501 = D 501 := (r1 501 (by decide)).trans d501
    have dm3 : 0 ≤ D4 501 3 ∧ D4 501 3 ≤ 6 := by rw [d501]; exact m.1
    have hx4 : 0 ≤ b ∧ b < D4 501 3 := by rw [d501]; exact hx
    have ct1 : bb_ct (M1 506) (M1 500 15) [] := ⟨p15, fun j hj => absurd hj (Nat.not_lt_zero j)⟩
    obtain ⟨M2, y2, q2, v2⟩ := bb_y108 (K := K) (L := ab_u L 508 0 (ab_I (D4 497 3)).toInt64) (z := z4) (x := b) ct1 b0 (by omega) (by decide)
    obtain ⟨M3, y3, q3, v3⟩ := bb_y109 (K := K) (L := ab_u L 508 0 (ab_I (D4 497 3)).toInt64) (z := z4) (x := 58) q2 (by decide) (by decide) (by simp only [List.nil_append]; omega)
    have v13 := bb_MF_trans v2 v3
    obtain ⟨M4, y4, q4, v4⟩ := bb_l19 (K := K) hb9 b0 b6 hI 0 M3 (ab_u L 508 0 (ab_I (D4 497 3)).toInt64) z4 (by omega) q3 ((v13.1 501 (by decide) (by decide)).trans m501)
    rw [show ((0 : Nat) : Int) = 0 from rfl] at y4
    have vv := bb_MF_trans v13 v4
    have eqn : M4 500 15 = D4 497 3 := q4.1.trans c4.1.symm
    rw [eqn] at y4
    have row4 : ∀ i, i ≠ 500 → i ≠ 506 → M4 i = D4 i := fun i a c => (vv.1 i a c).trans (r1 i a)
    have row : ∀ i, i < 510 → i ≠ 497 → i ≠ 498 → i ≠ 500 → i ≠ 506 → M4 i = D i := fun i a b' c d e => (row4 i d e).trans (lf.1 i a b' c)
    have x500 : ∀ k, k ≠ 7 → k ≠ 15 → M4 500 k = D 500 k := fun k a c => by rw [vv.2 k c, p1 k a c, lf.1 500 (by decide) (by decide) (by decide)]
    have x7 : M4 500 7 = 0 := by rw [vv.2 7 (by decide)]; exact p7
    have hLr : ∀ i, i ≠ 508 → ab_u L 508 0 (ab_I (D4 497 3)).toInt64 i = L i := fun i a => ab_u_row a
    have zs := s4.1.1
    have lsl := bb_lz_le (D 501) b (bb_R (D 501) b 3).toNat
    refine ⟨D4, ab_u L 508 0 (ab_I (D4 497 3)).toInt64, z4, M4, 0, D4 497 3, ?_, ?_, by omega, x7, fun _ => ab_u_eq, ?_, hh.1, hh.2⟩
    · simp (discharger := first | assumption | exact True.intro | exact not_false | (refine ab_gK ?_; with_unfolding_all rfl) | exact ab_rgI (by omega) (by omega) | omega) only [ab_a18, ab_a107, bb_y182 hw hk hb9r hx, e1, e2, e3, e4, ab_re_v h2, ab_re_v h3, ab_re_v hh, ab_re_v h4, ab_e18_0, ab_e18_1, ab_e18_2, ab_e18_3, ab_e18_4, ab_e18_7, ab_e18_8, ab_e18_9, ab_e18_12, ab_e18_13, ab_e18_14, ab_e18_15, ab_e18_16, ab_e107_0, ab_e107_1, ab_e107_2, ab_e107_5, ab_e107_6, ab_e107_7, ab_e107_10, ab_e107_11, ab_e107_14, ab_e107_15, ab_e107_18, ab_e107_19, ab_e107_22, ab_e107_24, ab_e107_27, ab_e107_28, ab_e107_29, ab_e107_31, ab_e107_32, ab_e107_35, ab_e107_38, ab_e107_39, ab_e107_42, ab_e107_44, ab_e107_47, ab_e107_48, ab_e107_51, ab_e107_52, ab_e107_53, ab_e107_56, ab_e107_58, ab_e107_61, ab_e107_62, ab_e107_65, ab_e107_66, ab_e107_67, ab_e107_70, ab_e107_71, ab_e107_72, ab_e107_75, ab_e107_76, ab_e107_77, ab_e107_80, ab_e107_81, ab_e107_84, ab_e107_86, ab_e107_89, ab_e107_90, ab_e107_91, ab_e107_92, ab_e107_95, ab_e107_98, ab_e107_99, ab_e107_102, ab_e107_104, ab_e107_107, ab_e107_108, ab_e107_111, ab_e107_114, ab_e107_115, ab_e107_118, ab_e107_121, ab_br_t, ab_br_f, ab_re_v (ab_zz _), ab_re_n (ab_zz _)]
    · simp (discharger := first | assumption | exact True.intro | exact not_false | (refine ab_gK ?_; with_unfolding_all rfl) | exact ab_rgI (by omega) (by omega) | omega) only [ab_a19, ab_y103, if_pos hx4, bb_y92_0, ← hM1, y2, y3, y4, ab_e19_0, ab_e19_1, ab_e19_2, ab_e19_3, ab_e19_6, ab_e19_9, ab_e19_10, ab_e19_13, ab_e19_14, ab_e19_17, ab_e19_20, ab_e19_21, ab_e19_22, ab_e19_23, ab_e19_24, ab_e19_27, ab_e19_28, ab_e19_29, ab_e19_32, ab_e19_33, ab_e19_35, ab_e19_38, ab_e19_39, ab_e19_41, ab_e19_42, ab_e19_43, ab_e19_44, ab_e19_47, ab_e19_50, ab_e19_51, ab_e19_53, ab_e19_56, ab_e19_57, ab_e19_58, ab_e19_59, ab_e19_60, ab_e19_61, ab_e19_64, ab_e19_67, ab_e19_68, ab_e19_70, ab_e19_73, ab_e19_74, ab_e19_75, ab_e19_76, ab_e19_77, ab_e19_78, ab_e19_81, ab_e19_82, ab_e19_83, ab_e19_84, ab_e19_87, ab_e19_88, ab_e19_89, ab_e19_90, ab_e19_93, ab_e19_94, ab_e19_95, ab_e19_96, ab_e19_97, ab_e19_100, ab_e19_101, ab_e19_104, ab_e19_105, ab_e19_107, ab_e19_110, ab_e19_111, ab_e19_112, ab_e19_113, ab_e19_114, ab_e19_117, ab_e19_120, ab_e19_121, ab_e19_123, ab_e19_126, ab_e19_129, ab_e19_132, ab_e19_133, ab_e19_136, ab_br_t, ab_br_f, ab_re_v (ab_zz _), ab_re_n (ab_zz _)]
    · obtain ⟨n1, hH, hS, hR, h6, hT, hN, hM⟩ := h
      refine ⟨⟨by omega, by omega⟩, bb_HS_fr n9 hH (fun i a b' c => ⟨row i (by omega) (by omega) (by omega) (by omega) (by omega), hLr i (by omega)⟩) (x500 5 (by decide) (by decide)) (row 501 (by decide) (by decide) (by decide) (by decide) (by decide)) (row 502 (by decide) (by decide) (by decide) (by decide) (by decide)), bb_SN_fr n9 hS (row 17 (by decide) (by decide) (by decide) (by decide) (by decide)) (x500 4 (by decide) (by decide)) (fun i a b' => ⟨row i (by omega) (by omega) (by omega) (by omega) (by omega), hLr i (by omega)⟩) (row 503 (by decide) (by decide) (by decide) (by decide) (by decide)), bb_RS_fr hR (row 18 (by decide) (by decide) (by decide) (by decide) (by decide)) (x500 8 (by decide) (by decide)) (x500 9 (by decide) (by decide)) (x500 10 (by decide) (by decide)), by rw [x500 6 (by decide) (by decide)]; exact h6, bb_TX_fr hT (by rw [row 494 (by decide) (by decide) (by decide) (by decide) (by decide)]) (row 495 (by decide) (by decide) (by decide) (by decide) (by decide)) (row 505 (by decide) (by decide) (by decide) (by decide) (by decide)) (x500 12 (by decide) (by decide)) (x500 13 (by decide) (by decide)) (row 17 (by decide) (by decide) (by decide) (by decide) (by decide)), ⟨⟨s4.1, ?_, ?_, fun j j0 j1 => ?_⟩, ?_, ?_, fun j j0 j1 => ?_⟩, ?_⟩
      · rw [row4 497 (by decide) (by decide)]; exact s4.2.1
      · rw [row4 497 (by decide) (by decide)]; exact s4.2.2.1
      · rw [row4 z4.1 (by omega) (by omega)]; exact s4.2.2.2 j j0 j1
      · rw [row4 497 (by decide) (by decide)]; exact eqn.symm
      · have := q4.1
        omega
      · rw [row4 z4.1 (by omega) (by omega)]
        have a1 := c4.2 j.toNat (by have := q4.1; omega)
        have a2 := q4.2 j.toNat (by have := q4.1; omega)
        rw [show ((j.toNat : Nat) : Int) = j by omega] at a1 a2
        exact a1.trans a2.symm
      · obtain ⟨a, c⟩ := hM
        have a1 := lf.2.2.2.2.1
        have a2 := lf.2.2.2.2.2
        exact ⟨by omega, by omega⟩
  · skip
    refine ⟨D, L, ab_zc (ab_zx z), ab_u D 500 7 1, 1, 0, ?_, ?_, by omega, ab_u_eq, fun x => absurd x (by omega), bb_INV_q hn h (fun i _ e => ab_u_row e) (fun k e => ab_u_ne (.inr e)) (fun i _ => rfl) (.inr rfl), Nat.le_succ _, Nat.le_add_right _ 6⟩
    · simp (discharger := first | assumption | exact True.intro | exact not_false | (refine ab_gK ?_; with_unfolding_all rfl) | exact ab_rgI (by omega) (by omega) | omega) only [ab_a18, ab_a107, bb_y182t hw hk hb9r hx, ab_re_t (M := 107) (pc := 2) (E := "java/lang/IndexOutOfBoundsException") (by rfl) (ab_zzx _), ab_re_h (M := 18) (pc := 4) (E := "java/lang/IndexOutOfBoundsException") (ph := 12) (by rfl) (ab_zzx _), ab_e18_0, ab_e18_1, ab_e18_2, ab_e18_3, ab_e18_4, ab_e18_7, ab_e18_8, ab_e18_9, ab_e18_12, ab_e18_13, ab_e18_14, ab_e18_15, ab_e18_16, ab_e107_0, ab_e107_1, ab_e107_2, ab_e107_5, ab_e107_6, ab_e107_7, ab_e107_10, ab_e107_11, ab_e107_14, ab_e107_15, ab_e107_18, ab_e107_19, ab_e107_22, ab_e107_24, ab_e107_27, ab_e107_28, ab_e107_29, ab_e107_30, ab_e107_31, ab_e107_32, ab_e107_35, ab_e107_38, ab_e107_39, ab_e107_42, ab_e107_44, ab_e107_47, ab_e107_48, ab_e107_51, ab_e107_52, ab_e107_53, ab_e107_56, ab_e107_58, ab_e107_61, ab_e107_62, ab_e107_65, ab_e107_66, ab_e107_67, ab_e107_70, ab_e107_71, ab_e107_72, ab_e107_75, ab_e107_76, ab_e107_77, ab_e107_80, ab_e107_81, ab_e107_84, ab_e107_86, ab_e107_89, ab_e107_90, ab_e107_91, ab_e107_92, ab_e107_95, ab_e107_98, ab_e107_99, ab_e107_102, ab_e107_104, ab_e107_107, ab_e107_108, ab_e107_111, ab_e107_114, ab_e107_115, ab_e107_118, ab_e107_121, ab_br_t, ab_br_f, ab_re_v (ab_zz _), ab_re_n (ab_zz _)]
    · simp (discharger := first | assumption | exact True.intro | exact not_false | (refine ab_gK ?_; with_unfolding_all rfl) | exact ab_rgI (by omega) (by omega) | omega) only [ab_a19, ab_y103, if_neg hx, bb_y92_1, ab_e19_0, ab_e19_1, ab_e19_2, ab_e19_3, ab_e19_6, ab_e19_9, ab_e19_10, ab_e19_13, ab_e19_14, ab_e19_17, ab_e19_20, ab_e19_21, ab_e19_22, ab_e19_23, ab_e19_24, ab_e19_27, ab_e19_28, ab_e19_29, ab_e19_32, ab_e19_33, ab_e19_35, ab_e19_38, ab_e19_39, ab_e19_40, ab_e19_41, ab_e19_42, ab_e19_43, ab_e19_44, ab_e19_47, ab_e19_50, ab_e19_51, ab_e19_53, ab_e19_56, ab_e19_57, ab_e19_58, ab_e19_59, ab_e19_60, ab_e19_61, ab_e19_64, ab_e19_67, ab_e19_68, ab_e19_70, ab_e19_73, ab_e19_74, ab_e19_75, ab_e19_76, ab_e19_77, ab_e19_78, ab_e19_81, ab_e19_82, ab_e19_83, ab_e19_84, ab_e19_87, ab_e19_88, ab_e19_89, ab_e19_90, ab_e19_93, ab_e19_94, ab_e19_95, ab_e19_96, ab_e19_97, ab_e19_100, ab_e19_101, ab_e19_104, ab_e19_105, ab_e19_107, ab_e19_110, ab_e19_111, ab_e19_112, ab_e19_113, ab_e19_114, ab_e19_117, ab_e19_120, ab_e19_121, ab_e19_123, ab_e19_126, ab_e19_129, ab_e19_132, ab_e19_133, ab_e19_136, ab_br_t, ab_br_f, ab_re_v (ab_zz _), ab_re_n (ab_zz _)]

