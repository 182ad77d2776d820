/-! ===== the bench's changes are these: fields alone ===== -/
/-- nothing beside the shop changes -/
def bb_FR (D : Nat → Int → Int) (L : Nat → Int → Int64) (D' : Nat → Int → Int) (L' : Nat → Int → Int64) : Prop := ∀ i, (i < 19 ∨ 62 ≤ i) → D' i = D i ∧ L' i = L i
theorem bb_cno224 {K : ab_Kt} {D : Nat → Int → Int} {L : Nat → Int → Int64} {z : ab_Z} {c : Int} {g : Int → Int} (hw : bb_WS c g) (hk : bb_KS D L 19 g) {l : Int} (hl : ab_rg l) {r d : Int} (h : bb_sp_spool g l = .inl (r, d)) : ab_cal K 224 [.ref 18, .int (ab_I l)] (ab_mk D L z) = some (.inl (some (.int (ab_I (-1)))), ab_mk (bb_cref D r d) L z) := by
  have n := bb_WS_n hw
  have hsp := ab_sp0
  obtain ⟨⟨q2, q3, q4, q5, q6, q7, q8, q9⟩, kp, ka, kb, kn⟩ := id hk
  unfold bb_sp_spool at h
  split at h
  · rename_i h1
    cases h
    simp (discharger := first | assumption | exact True.intro | exact not_false | (refine ab_gK ?_; with_unfolding_all rfl) | exact ab_rgI (by omega) (by omega) | omega) only [ab_a224, bb_y255, bb_y256, if_neg h1, ab_e224_0, ab_e224_1, ab_e224_2, ab_e224_5, ab_e224_8, ab_e224_11, ab_e224_12, ab_e224_13, ab_e224_14, ab_e224_17, ab_e224_18, ab_e224_19, ab_e224_22, ab_e224_23, ab_e224_26, ab_e224_29, ab_e224_30, ab_e224_31, ab_e224_34, ab_e224_37, ab_e224_40, ab_e224_41, ab_e224_44, ab_e224_47, ab_br_t, ab_br_f, ab_re_v (ab_zz _), ab_re_n (ab_zz _)]
  · cases h

theorem bb_cok224 {K : ab_Kt} {D : Nat → Int → Int} {L : Nat → Int → Int64} {z : ab_Z} {c : Int} {g : Int → Int} (hw : bb_WS c g) (hk : bb_KS D L 19 g) {l : Int} (hl : ab_rg l) {v : Int} {g' : Int → Int} (h : bb_sp_spool g l = .inr (v, g')) : ∃ D' L', ab_cal K 224 [.ref 18, .int (ab_I l)] (ab_mk D L z) = some (.inl (some (.int (ab_I v))), ab_mk D' L' z) ∧ bb_KS D' L' 19 g' ∧ bb_FR D L D' L' := by
  have n := bb_WS_n hw
  have hsp := ab_sp0
  obtain ⟨⟨q2, q3, q4, q5, q6, q7, q8, q9⟩, kp, ka, kb, kn⟩ := id hk
  unfold bb_sp_spool at h
  split at h
  · cases h
  · rename_i h1
    have h1 := Decidable.not_not.mp h1
    obtain ⟨hv, hg⟩ := Prod.mk.inj (Sum.inr.inj h)
    have e : bb_sv2 g l = min (D 19 5 + l) 999 := by unfold bb_sv2; omega
    obtain ⟨D', hD'⟩ : ∃ x, x = (ab_u D 19 5 (min (D 19 5 + l) 999)) := ⟨_, rfl⟩
    have hrow : ∀ i, i ≠ 19 → D' i = D i := fun i h1 => by rw [hD', ab_u_row h1]
    have s2 : D' 19 2 = D 19 2 := by rw [hD', ab_u_ne (.inr (by decide))]
    have s3 : D' 19 3 = D 19 3 := by rw [hD', ab_u_ne (.inr (by decide))]
    have s4 : D' 19 4 = D 19 4 := by rw [hD', ab_u_ne (.inr (by decide))]
    have s5 : D' 19 5 = min (D 19 5 + l) 999 := by rw [hD', ab_u_eq]
    have s6 : D' 19 6 = D 19 6 := by rw [hD', ab_u_ne (.inr (by decide))]
    have s7 : D' 19 7 = D 19 7 := by rw [hD', ab_u_ne (.inr (by decide))]
    have s8 : D' 19 8 = D 19 8 := by rw [hD', ab_u_ne (.inr (by decide))]
    have s9 : D' 19 9 = D 19 9 := by rw [hD', ab_u_ne (.inr (by decide))]
    obtain ⟨G, hG⟩ : ∃ x, x = (bb_g1 g 2 (bb_sv2 g l)) := ⟨_, rfl⟩
    have l0 : G 0 = g 0 := by rw [hG, bb_g1_ne (by omega)]
    have l1 : G 1 = g 1 := by rw [hG, bb_g1_ne (by omega)]
    have l2 : G 2 = bb_sv2 g l := by rw [hG, bb_g1_eq]
    have l3 : G 3 = g 3 := by rw [hG, bb_g1_ne (by omega)]
    have l4 : G 4 = g 4 := by rw [hG, bb_g1_ne (by omega)]
    have l5 : G 5 = g 5 := by rw [hG, bb_g1_ne (by omega)]
    have l6 : G 6 = g 6 := by rw [hG, bb_g1_ne (by omega)]
    have l7 : G 7 = g 7 := by rw [hG, bb_g1_ne (by omega)]
    have lp : ∀ k, 8 ≤ k → k < 16 → G k = g k := fun k a d => by rw [hG, bb_g1_ne (by omega)]
    have re : ∀ e, 0 ≤ e → ∀ w, 0 ≤ w → w < 51 → bb_R G e w = bb_R g e w := fun e e0 w w0 w1 => by rw [hG, bb_R_lo e0 w0 (by omega)]
    have hrun : ab_cal K 224 [.ref 18, .int (ab_I l)] (ab_mk D L z) = some (.inl (some (.int (ab_I v))), ab_mk D' L z) := by
      rw [hD', ← hv]
      simp (discharger := first | assumption | exact True.intro | exact not_false | (refine ab_gK ?_; with_unfolding_all rfl) | exact ab_rgI (by omega) (by omega) | omega) only [ab_a224, bb_y255, if_pos h1, ab_u_eq, e, ab_e224_0, ab_e224_1, ab_e224_2, ab_e224_5, ab_e224_8, ab_e224_11, ab_e224_12, ab_e224_13, ab_e224_14, ab_e224_17, ab_e224_18, ab_e224_19, ab_e224_22, ab_e224_23, ab_e224_26, ab_e224_29, ab_e224_30, ab_e224_31, ab_e224_34, ab_e224_37, ab_e224_40, ab_e224_41, ab_e224_44, ab_e224_47, ab_br_t, ab_br_f, ab_re_v (ab_zz _), ab_re_n (ab_zz _)]
    refine ⟨D', L, hrun, ?_, fun i hi => ⟨hrow i (by omega), rfl⟩⟩
    rw [← hg, ← hG]
    refine ⟨⟨by omega, by omega, by omega, by omega, by omega, by omega, by omega, by omega⟩, fun p p0 p1 => ?_, fun e a d => ?_, fun e a d => ?_, fun e a d => ?_⟩
    · have e9 := bb_pI_e 19 p
      rw [hrow _ (by omega), hrow _ (by omega), lp _ (by omega) (by omega)]
      exact ⟨(kp p p0 p1).1, fun k a d => by rw [lp _ (by omega) (by omega)]; exact (kp p p0 p1).2 k a d⟩
    · have e9 := bb_bI_e 19 e
      exact bb_AB_fr (ka e a d) (fun i x y => hrow i (by omega))
    · have e9 := bb_bI_e 19 e
      rw [l0]
      exact bb_KB_congr (fun i x y => ⟨hrow i (by omega), rfl⟩) (fun w x y => (re e a w x y).symm) (bb_WB_n (bb_WS_W hw a (by omega))).2.2.2.1.2 (kb e a (by omega))
    · have e9 := bb_bI_e 19 e
      exact bb_NB_fr (fun i x y => ⟨hrow i (by omega), rfl⟩) (kn e (by omega) d)

theorem bb_cno223 {K : ab_Kt} {D : Nat → Int → Int} {L : Nat → Int → Int64} {z : ab_Z} {c : Int} {g : Int → Int} (hw : bb_WS c g) (hk : bb_KS D L 19 g) {b : Int} (hb : ab_rg b) {r d : Int} (h : bb_sp_sew g b = .inl (r, d)) : ab_cal K 223 [.ref 18, .int (ab_I b)] (ab_mk D L z) = some (.inl (some (.int (ab_I (-1)))), ab_mk (bb_cref D r d) L z) := by
  have n := bb_WS_n hw
  have hsp := ab_sp0
  obtain ⟨⟨q2, q3, q4, q5, q6, q7, q8, q9⟩, kp, ka, kb, kn⟩ := id hk
  unfold bb_sp_sew at h
  split at h
  · rename_i x hh
    cases h
    simp (discharger := first | assumption | exact True.intro | exact not_false | (refine ab_gK ?_; with_unfolding_all rfl) | exact ab_rgI (by omega) (by omega) | omega) only [ab_a223, bb_y258s hw hk hb ab_rg0 hh, ab_e223_0, ab_e223_1, ab_e223_2, ab_e223_3, ab_e223_6, ab_e223_9, ab_e223_10, ab_e223_11, ab_e223_12, ab_e223_15, ab_e223_18, ab_e223_19, ab_e223_20, ab_e223_21, ab_e223_22, ab_e223_25, ab_e223_26, ab_e223_29, ab_e223_32, ab_e223_33, ab_e223_35, ab_e223_36, ab_e223_39, ab_e223_42, ab_e223_43, ab_e223_44, ab_e223_45, ab_e223_48, ab_e223_51, ab_e223_52, ab_e223_53, ab_e223_54, ab_e223_57, ab_e223_60, ab_e223_63, ab_e223_64, ab_e223_66, ab_e223_67, ab_e223_68, ab_e223_71, ab_e223_74, ab_e223_75, ab_e223_78, ab_e223_79, ab_e223_80, ab_e223_83, ab_e223_84, ab_e223_87, ab_e223_88, ab_e223_89, ab_e223_92, ab_e223_93, ab_e223_96, ab_e223_97, ab_e223_100, ab_e223_101, ab_e223_102, ab_e223_105, ab_e223_106, ab_e223_107, ab_e223_110, ab_e223_111, ab_e223_112, ab_e223_115, ab_e223_116, ab_e223_119, ab_e223_122, ab_br_t, ab_br_f, ab_re_v (ab_zz _), ab_re_n (ab_zz _)]
  · rename_i hh
    have hm := bb_at_n hh
    have hb9 := bb_WS_W hw hm.1.1 hm.1.2
    have hn := bb_WB_n hb9
    have b0 := hm.1.1
    have b1 := hm.1.2
    have b6 : b < 6 := by omega
    have hbk := ab_bk_bI hsp b0 b6
    have eB := bb_bI_e 19 b
    have kk := kb b b0 b1
    have hIB := bb_KS_IB hw hk b0 b1
    have hI := bb_WS_IR hw b0 b1
    obtain ⟨⟨f0, f1, f2, f3, f4, f6⟩, f7, f5, -, -⟩ := id kk
    have fd := bb_nd_rg hb9 n.2.2.1.1
    split at h
    · rename_i h1
      cases h
      simp (discharger := first | assumption | exact True.intro | exact not_false | (refine ab_gK ?_; with_unfolding_all rfl) | exact ab_rgI (by omega) (by omega) | omega) only [ab_a223, bb_y258n hw hk hb hh, bb_y256, f3, ab_e223_0, ab_e223_1, ab_e223_2, ab_e223_3, ab_e223_6, ab_e223_9, ab_e223_10, ab_e223_11, ab_e223_12, ab_e223_15, ab_e223_18, ab_e223_19, ab_e223_20, ab_e223_21, ab_e223_22, ab_e223_25, ab_e223_26, ab_e223_29, ab_e223_32, ab_e223_33, ab_e223_35, ab_e223_36, ab_e223_39, ab_e223_42, ab_e223_43, ab_e223_44, ab_e223_45, ab_e223_48, ab_e223_51, ab_e223_52, ab_e223_53, ab_e223_54, ab_e223_57, ab_e223_60, ab_e223_63, ab_e223_64, ab_e223_66, ab_e223_67, ab_e223_68, ab_e223_71, ab_e223_74, ab_e223_75, ab_e223_78, ab_e223_79, ab_e223_80, ab_e223_83, ab_e223_84, ab_e223_87, ab_e223_88, ab_e223_89, ab_e223_92, ab_e223_93, ab_e223_96, ab_e223_97, ab_e223_100, ab_e223_101, ab_e223_102, ab_e223_105, ab_e223_106, ab_e223_107, ab_e223_110, ab_e223_111, ab_e223_112, ab_e223_115, ab_e223_116, ab_e223_119, ab_e223_122, ab_br_t, ab_br_f, ab_re_v (ab_zz _), ab_re_n (ab_zz _)]
    · rename_i h1
      have h40 : 0 ≤ bb_R g b 4 := by omega
      have h412 : bb_R g b 4 < 12 := by omega
      have hth := bb_rth_rg hw b0 b1 h40 h412
      have vth : ab_th D (ab_bI 19 b) (D (ab_bI 19 b) 4) = ab_rth g b (bb_R g b 4) := by rw [f4]; exact bb_v_th kk h40 (by omega)
      split at h
      · rename_i h2
        cases h
        simp (discharger := first | assumption | exact True.intro | exact not_false | (refine ab_gK ?_; with_unfolding_all rfl) | exact ab_rgI (by omega) (by omega) | omega) only [ab_a223, bb_y258n hw hk hb hh, bb_y256, ab_y250 hbk, vth, q5, ab_e223_0, ab_e223_1, ab_e223_2, ab_e223_3, ab_e223_6, ab_e223_9, ab_e223_10, ab_e223_11, ab_e223_12, ab_e223_15, ab_e223_18, ab_e223_19, ab_e223_20, ab_e223_21, ab_e223_22, ab_e223_25, ab_e223_26, ab_e223_29, ab_e223_32, ab_e223_33, ab_e223_35, ab_e223_36, ab_e223_39, ab_e223_42, ab_e223_43, ab_e223_44, ab_e223_45, ab_e223_48, ab_e223_51, ab_e223_52, ab_e223_53, ab_e223_54, ab_e223_57, ab_e223_60, ab_e223_63, ab_e223_64, ab_e223_66, ab_e223_67, ab_e223_68, ab_e223_71, ab_e223_74, ab_e223_75, ab_e223_78, ab_e223_79, ab_e223_80, ab_e223_83, ab_e223_84, ab_e223_87, ab_e223_88, ab_e223_89, ab_e223_92, ab_e223_93, ab_e223_96, ab_e223_97, ab_e223_100, ab_e223_101, ab_e223_102, ab_e223_105, ab_e223_106, ab_e223_107, ab_e223_110, ab_e223_111, ab_e223_112, ab_e223_115, ab_e223_116, ab_e223_119, ab_e223_122, ab_br_t, ab_br_f, ab_re_v (ab_zz _), ab_re_n (ab_zz _)]
      · cases h

theorem bb_cok223 {K : ab_Kt} {D : Nat → Int → Int} {L : Nat → Int → Int64} {z : ab_Z} {c : Int} {g : Int → Int} (hw : bb_WS c g) (hk : bb_KS D L 19 g) {b : Int} (hb : ab_rg b) {v : Int} {g' : Int → Int} (h : bb_sp_sew g b = .inr (v, g')) : ∃ D' L', ab_cal K 223 [.ref 18, .int (ab_I b)] (ab_mk D L z) = some (.inl (some (.int (ab_I v))), ab_mk D' L' z) ∧ bb_KS D' L' 19 g' ∧ bb_FR D L D' L' := by
  have n := bb_WS_n hw
  have hsp := ab_sp0
  obtain ⟨⟨q2, q3, q4, q5, q6, q7, q8, q9⟩, kp, ka, kb, kn⟩ := id hk
  unfold bb_sp_sew at h
  split at h
  · rename_i x hh
    cases h
  · rename_i hh
    have hm := bb_at_n hh
    have hb9 := bb_WS_W hw hm.1.1 hm.1.2
    have hn := bb_WB_n hb9
    have b0 := hm.1.1
    have b1 := hm.1.2
    have b6 : b < 6 := by omega
    have hbk := ab_bk_bI hsp b0 b6
    have eB := bb_bI_e 19 b
    have kk := kb b b0 b1
    have hIB := bb_KS_IB hw hk b0 b1
    have hI := bb_WS_IR hw b0 b1
    obtain ⟨⟨f0, f1, f2, f3, f4, f6⟩, f7, f5, -, -⟩ := id kk
    have fd := bb_nd_rg hb9 n.2.2.1.1
    split at h
    · cases h
    · rename_i h1
      have h40 : 0 ≤ bb_R g b 4 := by omega
      have h412 : bb_R g b 4 < 12 := by omega
      have hth := bb_rth_rg hw b0 b1 h40 h412
      have vth : ab_th D (ab_bI 19 b) (D (ab_bI 19 b) 4) = ab_rth g b (bb_R g b 4) := by rw [f4]; exact bb_v_th kk h40 (by omega)
      split at h
      · cases h
      · rename_i h2
        obtain ⟨hv, hg⟩ := Prod.mk.inj (Sum.inr.inj h)
        have nsB : 19 ≠ ab_bI 19 b := by omega
        have nBs : ab_bI 19 b ≠ 19 := by omega
        obtain ⟨D', hD'⟩ : ∃ x, x = (ab_u (ab_u (ab_u D 19 5 (D 19 5 - ab_rth g b (bb_R g b 4))) 19 6 (D 19 6 + ab_rth g b (bb_R g b 4))) (ab_bI 19 b) 4 (D (ab_bI 19 b) 4 + 1)) := ⟨_, rfl⟩
        have hrow : ∀ i, i ≠ 19 → i ≠ ab_bI 19 b → D' i = D i := fun i h1 h2 => by rw [hD', ab_u_row h2, ab_u_row h1, ab_u_row h1]
        have s2 : D' 19 2 = D 19 2 := by rw [hD', ab_u_row nsB, ab_u_ne (.inr (by decide)), ab_u_ne (.inr (by decide))]
        have s3 : D' 19 3 = D 19 3 := by rw [hD', ab_u_row nsB, ab_u_ne (.inr (by decide)), ab_u_ne (.inr (by decide))]
        have s4 : D' 19 4 = D 19 4 := by rw [hD', ab_u_row nsB, ab_u_ne (.inr (by decide)), ab_u_ne (.inr (by decide))]
        have s5 : D' 19 5 = D 19 5 - ab_rth g b (bb_R g b 4) := by rw [hD', ab_u_row nsB, ab_u_ne (.inr (by decide)), ab_u_eq]
        have s6 : D' 19 6 = D 19 6 + ab_rth g b (bb_R g b 4) := by rw [hD', ab_u_row nsB, ab_u_eq]
        have s7 : D' 19 7 = D 19 7 := by rw [hD', ab_u_row nsB, ab_u_ne (.inr (by decide)), ab_u_ne (.inr (by decide))]
        have s8 : D' 19 8 = D 19 8 := by rw [hD', ab_u_row nsB, ab_u_ne (.inr (by decide)), ab_u_ne (.inr (by decide))]
        have s9 : D' 19 9 = D 19 9 := by rw [hD', ab_u_row nsB, ab_u_ne (.inr (by decide)), ab_u_ne (.inr (by decide))]
        have c0 : D' (ab_bI 19 b) 0 = D (ab_bI 19 b) 0 := by rw [hD', ab_u_ne (.inr (by decide)), ab_u_row nBs, ab_u_row nBs]
        have c1 : D' (ab_bI 19 b) 1 = D (ab_bI 19 b) 1 := by rw [hD', ab_u_ne (.inr (by decide)), ab_u_row nBs, ab_u_row nBs]
        have c2 : D' (ab_bI 19 b) 2 = D (ab_bI 19 b) 2 := by rw [hD', ab_u_ne (.inr (by decide)), ab_u_row nBs, ab_u_row nBs]
        have c3 : D' (ab_bI 19 b) 3 = D (ab_bI 19 b) 3 := by rw [hD', ab_u_ne (.inr (by decide)), ab_u_row nBs, ab_u_row nBs]
        have c4 : D' (ab_bI 19 b) 4 = D (ab_bI 19 b) 4 + 1 := by rw [hD', ab_u_eq]
        have c5 : D' (ab_bI 19 b) 5 = D (ab_bI 19 b) 5 := by rw [hD', ab_u_ne (.inr (by decide)), ab_u_row nBs, ab_u_row nBs]
        have c6 : D' (ab_bI 19 b) 6 = D (ab_bI 19 b) 6 := by rw [hD', ab_u_ne (.inr (by decide)), ab_u_row nBs, ab_u_row nBs]
        have c7 : D' (ab_bI 19 b) 7 = D (ab_bI 19 b) 7 := by rw [hD', ab_u_ne (.inr (by decide)), ab_u_row nBs, ab_u_row nBs]
        obtain ⟨G, hG⟩ : ∃ x, x = (bb_g1 (bb_g1 (bb_g1 g 2 (g 2 - ab_rth g b (bb_R g b 4))) 4 (g 4 + ab_rth g b (bb_R g b 4))) (16 + 51 * b + 4) (bb_R g b 4 + 1)) := ⟨_, rfl⟩
        have l0 : G 0 = g 0 := by rw [hG, bb_g1_ne (by omega), bb_g1_ne (by omega), bb_g1_ne (by omega)]
        have l1 : G 1 = g 1 := by rw [hG, bb_g1_ne (by omega), bb_g1_ne (by omega), bb_g1_ne (by omega)]
        have l2 : G 2 = g 2 - ab_rth g b (bb_R g b 4) := by rw [hG, bb_g1_ne (by omega), bb_g1_ne (by omega), bb_g1_eq]
        have l3 : G 3 = g 3 := by rw [hG, bb_g1_ne (by omega), bb_g1_ne (by omega), bb_g1_ne (by omega)]
        have l4 : G 4 = g 4 + ab_rth g b (bb_R g b 4) := by rw [hG, bb_g1_ne (by omega), bb_g1_eq]
        have l5 : G 5 = g 5 := by rw [hG, bb_g1_ne (by omega), bb_g1_ne (by omega), bb_g1_ne (by omega)]
        have l6 : G 6 = g 6 := by rw [hG, bb_g1_ne (by omega), bb_g1_ne (by omega), bb_g1_ne (by omega)]
        have l7 : G 7 = g 7 := by rw [hG, bb_g1_ne (by omega), bb_g1_ne (by omega), bb_g1_ne (by omega)]
        have lp : ∀ k, 8 ≤ k → k < 16 → G k = g k := fun k a d => by rw [hG, bb_g1_ne (by omega), bb_g1_ne (by omega), bb_g1_ne (by omega)]
        have r2 : bb_R G b 2 = bb_R g b 2 := by rw [hG, bb_R_g1 (by omega) (by omega) (by omega) (by omega), if_neg (by omega), bb_R_lo b0 (by omega) (by omega), bb_R_lo b0 (by omega) (by omega)]
        have r4 : bb_R G b 4 = bb_R g b 4 + 1 := by rw [hG, bb_R_g1 (by omega) (by omega) (by omega) (by omega), if_pos ⟨rfl, rfl⟩]
        have r5 : bb_R G b 5 = bb_R g b 5 := by rw [hG, bb_R_g1 (by omega) (by omega) (by omega) (by omega), if_neg (by omega), bb_R_lo b0 (by omega) (by omega), bb_R_lo b0 (by omega) (by omega)]
        have r6 : bb_R G b 6 = bb_R g b 6 := by rw [hG, bb_R_g1 (by omega) (by omega) (by omega) (by omega), if_neg (by omega), bb_R_lo b0 (by omega) (by omega), bb_R_lo b0 (by omega) (by omega)]
        have ro : ∀ w, 0 ≤ w → w < 51 → w ≠ 2 → w ≠ 4 → w ≠ 5 → w ≠ 6 → bb_R G b w = bb_R g b w := fun w w0 w1 w2 w4 w5 w6 => by
          have e0 := b0
          rw [hG, bb_R_g1 w0 w1 (by omega) (by omega), if_neg (by omega), bb_R_lo e0 w0 (by omega), bb_R_lo e0 w0 (by omega)]
        have re : ∀ e, 0 ≤ e → e ≠ b → ∀ w, 0 ≤ w → w < 51 → bb_R G e w = bb_R g e w := fun e e0 he w w0 w1 => by rw [hG, bb_R_g1 w0 w1 (by omega) (by omega), if_neg (fun x => he x.1), bb_R_lo e0 w0 (by omega), bb_R_lo e0 w0 (by omega)]
        have hrun : ab_cal K 223 [.ref 18, .int (ab_I b)] (ab_mk D L z) = some (.inl (some (.int (ab_I v))), ab_mk D' L z) := by
          rw [hD', ← hv]
          simp (discharger := first | assumption | exact True.intro | exact not_false | (refine ab_gK ?_; with_unfolding_all rfl) | exact ab_rgI (by omega) (by omega) | omega) only [ab_a223, bb_y258n hw hk hb hh, ab_y250 hbk, vth, ab_u_eq, ab_u_ne, q5, ab_e223_0, ab_e223_1, ab_e223_2, ab_e223_3, ab_e223_6, ab_e223_9, ab_e223_10, ab_e223_11, ab_e223_12, ab_e223_15, ab_e223_18, ab_e223_19, ab_e223_20, ab_e223_21, ab_e223_22, ab_e223_25, ab_e223_26, ab_e223_29, ab_e223_32, ab_e223_33, ab_e223_35, ab_e223_36, ab_e223_39, ab_e223_42, ab_e223_43, ab_e223_44, ab_e223_45, ab_e223_48, ab_e223_51, ab_e223_52, ab_e223_53, ab_e223_54, ab_e223_57, ab_e223_60, ab_e223_63, ab_e223_64, ab_e223_66, ab_e223_67, ab_e223_68, ab_e223_71, ab_e223_74, ab_e223_75, ab_e223_78, ab_e223_79, ab_e223_80, ab_e223_83, ab_e223_84, ab_e223_87, ab_e223_88, ab_e223_89, ab_e223_92, ab_e223_93, ab_e223_96, ab_e223_97, ab_e223_100, ab_e223_101, ab_e223_102, ab_e223_105, ab_e223_106, ab_e223_107, ab_e223_110, ab_e223_111, ab_e223_112, ab_e223_115, ab_e223_116, ab_e223_119, ab_e223_122, ab_br_t, ab_br_f, ab_re_v (ab_zz _), ab_re_n (ab_zz _)]
        refine ⟨D', L, hrun, ?_, fun i hi => ⟨hrow i (by omega) (by omega), rfl⟩⟩
        rw [← hg, ← hG]
        refine bb_KS_bk hw hk b0 b1 ⟨by omega, by omega, by omega, by omega, by omega, by omega, by omega, by omega⟩ (fun p p0 p1 => ?_) (bb_AB_r (ka b b0 b6) (fun i a d => hrow i (by omega) (by omega))) ?_ (fun i a d e => ⟨hrow i (by omega) (by omega), rfl⟩) (fun e' a d he w w0 w1 => (re e' a he w w0 w1).symm) (by omega) (by omega)
        · have e9 := bb_pI_e 19 p
          rw [hrow _ (by omega) (by omega), hrow _ (by omega) (by omega), lp _ (by omega) (by omega)]
          exact ⟨(kp p p0 p1).1, fun k a d => by rw [lp _ (by omega) (by omega)]; exact (kp p p0 p1).2 k a d⟩
        · refine bb_KB_f hn.2.2.2.1.2 kk (fun i a d => ⟨hrow i (by omega) (by omega), rfl⟩) c0 c1 c3 c5 ro (by rw [r2]; omega) (by rw [r4]; omega) (by rw [r5]; omega) ?_
          rw [c7, f7]; unfold bb_nd; rw [r5, r6, l0]

theorem bb_cno222 {K : ab_Kt} {D : Nat → Int → Int} {L : Nat → Int → Int64} {z : ab_Z} {c : Int} {g : Int → Int} (hw : bb_WS c g) (hk : bb_KS D L 19 g) {b : Int} (hb : ab_rg b) {r d : Int} (h : bb_sp_unpick g b = .inl (r, d)) : ab_cal K 222 [.ref 18, .int (ab_I b)] (ab_mk D L z) = some (.inl (some (.int (ab_I (-1)))), ab_mk (bb_cref D r d) L z) := by
  have n := bb_WS_n hw
  have hsp := ab_sp0
  obtain ⟨⟨q2, q3, q4, q5, q6, q7, q8, q9⟩, kp, ka, kb, kn⟩ := id hk
  unfold bb_sp_unpick at h
  split at h
  · rename_i x hh
    cases h
    simp (discharger := first | assumption | exact True.intro | exact not_false | (refine ab_gK ?_; with_unfolding_all rfl) | exact ab_rgI (by omega) (by omega) | omega) only [ab_a222, bb_y258s hw hk hb ab_rg0 hh, ab_e222_0, ab_e222_1, ab_e222_2, ab_e222_3, ab_e222_6, ab_e222_9, ab_e222_10, ab_e222_11, ab_e222_12, ab_e222_15, ab_e222_18, ab_e222_19, ab_e222_20, ab_e222_21, ab_e222_22, ab_e222_25, ab_e222_28, ab_e222_29, ab_e222_31, ab_e222_32, ab_e222_35, ab_e222_38, ab_e222_39, ab_e222_40, ab_e222_41, ab_e222_44, ab_e222_45, ab_e222_46, ab_e222_49, ab_e222_50, ab_e222_53, ab_e222_54, ab_e222_57, ab_e222_58, ab_e222_59, ab_e222_62, ab_e222_63, ab_e222_66, ab_br_t, ab_br_f, ab_re_v (ab_zz _), ab_re_n (ab_zz _)]
  · rename_i hh
    have hm := bb_at_n hh
    have hb9 := bb_WS_W hw hm.1.1 hm.1.2
    have hn := bb_WB_n hb9
    have b0 := hm.1.1
    have b1 := hm.1.2
    have b6 : b < 6 := by omega
    have hbk := ab_bk_bI hsp b0 b6
    have eB := bb_bI_e 19 b
    have kk := kb b b0 b1
    have hIB := bb_KS_IB hw hk b0 b1
    have hI := bb_WS_IR hw b0 b1
    obtain ⟨⟨f0, f1, f2, f3, f4, f6⟩, f7, f5, -, -⟩ := id kk
    have fd := bb_nd_rg hb9 n.2.2.1.1
    split at h
    · rename_i h1
      cases h
      simp (discharger := first | assumption | exact True.intro | exact not_false | (refine ab_gK ?_; with_unfolding_all rfl) | exact ab_rgI (by omega) (by omega) | omega) only [ab_a222, bb_y258n hw hk hb hh, bb_y256, f3, ab_e222_0, ab_e222_1, ab_e222_2, ab_e222_3, ab_e222_6, ab_e222_9, ab_e222_10, ab_e222_11, ab_e222_12, ab_e222_15, ab_e222_18, ab_e222_19, ab_e222_20, ab_e222_21, ab_e222_22, ab_e222_25, ab_e222_28, ab_e222_29, ab_e222_31, ab_e222_32, ab_e222_35, ab_e222_38, ab_e222_39, ab_e222_40, ab_e222_41, ab_e222_44, ab_e222_45, ab_e222_46, ab_e222_49, ab_e222_50, ab_e222_53, ab_e222_54, ab_e222_57, ab_e222_58, ab_e222_59, ab_e222_62, ab_e222_63, ab_e222_66, ab_br_t, ab_br_f, ab_re_v (ab_zz _), ab_re_n (ab_zz _)]
    · cases h

theorem bb_cok222 {K : ab_Kt} {D : Nat → Int → Int} {L : Nat → Int → Int64} {z : ab_Z} {c : Int} {g : Int → Int} (hw : bb_WS c g) (hk : bb_KS D L 19 g) {b : Int} (hb : ab_rg b) {v : Int} {g' : Int → Int} (h : bb_sp_unpick g b = .inr (v, g')) : ∃ D' L', ab_cal K 222 [.ref 18, .int (ab_I b)] (ab_mk D L z) = some (.inl (some (.int (ab_I v))), ab_mk D' L' z) ∧ bb_KS D' L' 19 g' ∧ bb_FR D L D' L' := by
  have n := bb_WS_n hw
  have hsp := ab_sp0
  obtain ⟨⟨q2, q3, q4, q5, q6, q7, q8, q9⟩, kp, ka, kb, kn⟩ := id hk
  unfold bb_sp_unpick at h
  split at h
  · rename_i x hh
    cases h
  · rename_i hh
    have hm := bb_at_n hh
    have hb9 := bb_WS_W hw hm.1.1 hm.1.2
    have hn := bb_WB_n hb9
    have b0 := hm.1.1
    have b1 := hm.1.2
    have b6 : b < 6 := by omega
    have hbk := ab_bk_bI hsp b0 b6
    have eB := bb_bI_e 19 b
    have kk := kb b b0 b1
    have hIB := bb_KS_IB hw hk b0 b1
    have hI := bb_WS_IR hw b0 b1
    obtain ⟨⟨f0, f1, f2, f3, f4, f6⟩, f7, f5, -, -⟩ := id kk
    have fd := bb_nd_rg hb9 n.2.2.1.1
    split at h
    · cases h
    · rename_i h1
      obtain ⟨hv, hg⟩ := Prod.mk.inj (Sum.inr.inj h)
      have nsB : 19 ≠ ab_bI 19 b := by omega
      have nBs : ab_bI 19 b ≠ 19 := by omega
      obtain ⟨D', hD'⟩ : ∃ x, x = (ab_u (ab_u D (ab_bI 19 b) 4 (D (ab_bI 19 b) 4 - 1)) 19 7 (D 19 7 + 1)) := ⟨_, rfl⟩
      have hrow : ∀ i, i ≠ 19 → i ≠ ab_bI 19 b → D' i = D i := fun i h1 h2 => by rw [hD', ab_u_row h1, ab_u_row h2]
      have s2 : D' 19 2 = D 19 2 := by rw [hD', ab_u_ne (.inr (by decide)), ab_u_row nsB]
      have s3 : D' 19 3 = D 19 3 := by rw [hD', ab_u_ne (.inr (by decide)), ab_u_row nsB]
      have s4 : D' 19 4 = D 19 4 := by rw [hD', ab_u_ne (.inr (by decide)), ab_u_row nsB]
      have s5 : D' 19 5 = D 19 5 := by rw [hD', ab_u_ne (.inr (by decide)), ab_u_row nsB]
      have s6 : D' 19 6 = D 19 6 := by rw [hD', ab_u_ne (.inr (by decide)), ab_u_row nsB]
      have s7 : D' 19 7 = D 19 7 + 1 := by rw [hD', ab_u_eq]
      have s8 : D' 19 8 = D 19 8 := by rw [hD', ab_u_ne (.inr (by decide)), ab_u_row nsB]
      have s9 : D' 19 9 = D 19 9 := by rw [hD', ab_u_ne (.inr (by decide)), ab_u_row nsB]
      have c0 : D' (ab_bI 19 b) 0 = D (ab_bI 19 b) 0 := by rw [hD', ab_u_row nBs, ab_u_ne (.inr (by decide))]
      have c1 : D' (ab_bI 19 b) 1 = D (ab_bI 19 b) 1 := by rw [hD', ab_u_row nBs, ab_u_ne (.inr (by decide))]
      have c2 : D' (ab_bI 19 b) 2 = D (ab_bI 19 b) 2 := by rw [hD', ab_u_row nBs, ab_u_ne (.inr (by decide))]
      have c3 : D' (ab_bI 19 b) 3 = D (ab_bI 19 b) 3 := by rw [hD', ab_u_row nBs, ab_u_ne (.inr (by decide))]
      have c4 : D' (ab_bI 19 b) 4 = D (ab_bI 19 b) 4 - 1 := by rw [hD', ab_u_row nBs, ab_u_eq]
      have c5 : D' (ab_bI 19 b) 5 = D (ab_bI 19 b) 5 := by rw [hD', ab_u_row nBs, ab_u_ne (.inr (by decide))]
      have c6 : D' (ab_bI 19 b) 6 = D (ab_bI 19 b) 6 := by rw [hD', ab_u_row nBs, ab_u_ne (.inr (by decide))]
      have c7 : D' (ab_bI 19 b) 7 = D (ab_bI 19 b) 7 := by rw [hD', ab_u_row nBs, ab_u_ne (.inr (by decide))]
      obtain ⟨G, hG⟩ : ∃ x, x = (bb_g1 (bb_g1 g (16 + 51 * b + 4) (bb_R g b 4 - 1)) 5 (g 5 + 1)) := ⟨_, rfl⟩
      have l0 : G 0 = g 0 := by rw [hG, bb_g1_ne (by omega), bb_g1_ne (by omega)]
      have l1 : G 1 = g 1 := by rw [hG, bb_g1_ne (by omega), bb_g1_ne (by omega)]
      have l2 : G 2 = g 2 := by rw [hG, bb_g1_ne (by omega), bb_g1_ne (by omega)]
      have l3 : G 3 = g 3 := by rw [hG, bb_g1_ne (by omega), bb_g1_ne (by omega)]
      have l4 : G 4 = g 4 := by rw [hG, bb_g1_ne (by omega), bb_g1_ne (by omega)]
      have l5 : G 5 = g 5 + 1 := by rw [hG, bb_g1_eq]
      have l6 : G 6 = g 6 := by rw [hG, bb_g1_ne (by omega), bb_g1_ne (by omega)]
      have l7 : G 7 = g 7 := by rw [hG, bb_g1_ne (by omega), bb_g1_ne (by omega)]
      have lp : ∀ k, 8 ≤ k → k < 16 → G k = g k := fun k a d => by rw [hG, bb_g1_ne (by omega), bb_g1_ne (by omega)]
      have r2 : bb_R G b 2 = bb_R g b 2 := by rw [hG, bb_R_lo b0 (by omega) (by omega), bb_R_g1 (by omega) (by omega) (by omega) (by omega), if_neg (by omega)]
      have r4 : bb_R G b 4 = bb_R g b 4 - 1 := by rw [hG, bb_R_lo b0 (by omega) (by omega), bb_R_g1 (by omega) (by omega) (by omega) (by omega), if_pos ⟨rfl, rfl⟩]
      have r5 : bb_R G b 5 = bb_R g b 5 := by rw [hG, bb_R_lo b0 (by omega) (by omega), bb_R_g1 (by omega) (by omega) (by omega) (by omega), if_neg (by omega)]
      have r6 : bb_R G b 6 = bb_R g b 6 := by rw [hG, bb_R_lo b0 (by omega) (by omega), bb_R_g1 (by omega) (by omega) (by omega) (by omega), if_neg (by omega)]
      have ro : ∀ w, 0 ≤ w → w < 51 → w ≠ 2 → w ≠ 4 → w ≠ 5 → w ≠ 6 → bb_R G b w = bb_R g b w := fun w w0 w1 w2 w4 w5 w6 => by
        have e0 := b0
        rw [hG, bb_R_lo e0 w0 (by omega), bb_R_g1 w0 w1 (by omega) (by omega), if_neg (by omega)]
      have re : ∀ e, 0 ≤ e → e ≠ b → ∀ w, 0 ≤ w → w < 51 → bb_R G e w = bb_R g e w := fun e e0 he w w0 w1 => by rw [hG, bb_R_lo e0 w0 (by omega), bb_R_g1 w0 w1 (by omega) (by omega), if_neg (fun x => he x.1)]
      have hrun : ab_cal K 222 [.ref 18, .int (ab_I b)] (ab_mk D L z) = some (.inl (some (.int (ab_I v))), ab_mk D' L z) := by
        rw [hD', ← hv]
        simp (discharger := first | assumption | exact True.intro | exact not_false | (refine ab_gK ?_; with_unfolding_all rfl) | exact ab_rgI (by omega) (by omega) | omega) only [ab_a222, bb_y258n hw hk hb hh, ab_u_eq, ab_u_ne, f4, ab_e222_0, ab_e222_1, ab_e222_2, ab_e222_3, ab_e222_6, ab_e222_9, ab_e222_10, ab_e222_11, ab_e222_12, ab_e222_15, ab_e222_18, ab_e222_19, ab_e222_20, ab_e222_21, ab_e222_22, ab_e222_25, ab_e222_28, ab_e222_29, ab_e222_31, ab_e222_32, ab_e222_35, ab_e222_38, ab_e222_39, ab_e222_40, ab_e222_41, ab_e222_44, ab_e222_45, ab_e222_46, ab_e222_49, ab_e222_50, ab_e222_53, ab_e222_54, ab_e222_57, ab_e222_58, ab_e222_59, ab_e222_62, ab_e222_63, ab_e222_66, ab_br_t, ab_br_f, ab_re_v (ab_zz _), ab_re_n (ab_zz _)]
      refine ⟨D', L, hrun, ?_, fun i hi => ⟨hrow i (by omega) (by omega), rfl⟩⟩
      rw [← hg, ← hG]
      refine bb_KS_bk hw hk b0 b1 ⟨by omega, by omega, by omega, by omega, by omega, by omega, by omega, by omega⟩ (fun p p0 p1 => ?_) (bb_AB_r (ka b b0 b6) (fun i a d => hrow i (by omega) (by omega))) ?_ (fun i a d e => ⟨hrow i (by omega) (by omega), rfl⟩) (fun e' a d he w w0 w1 => (re e' a he w w0 w1).symm) (by omega) (by omega)
      · have e9 := bb_pI_e 19 p
        rw [hrow _ (by omega) (by omega), hrow _ (by omega) (by omega), lp _ (by omega) (by omega)]
        exact ⟨(kp p p0 p1).1, fun k a d => by rw [lp _ (by omega) (by omega)]; exact (kp p p0 p1).2 k a d⟩
      · refine bb_KB_f hn.2.2.2.1.2 kk (fun i a d => ⟨hrow i (by omega) (by omega), rfl⟩) c0 c1 c3 c5 ro (by rw [r2]; omega) (by rw [r4]; omega) (by rw [r5]; omega) ?_
        rw [c7, f7]; unfold bb_nd; rw [r5, r6, l0]

