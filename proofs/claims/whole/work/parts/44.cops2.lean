/-! ===== the bench's changes are these: glue, delivering, presses ===== -/
theorem bb_v_cs {D : Nat → Int → Int} {L : Nat → Int → Int64} {b : Nat} {g : Int → Int} {e mn : Int} (hk : bb_KB D L b g e mn) {p : Int} (p0 : 0 ≤ p) (p1 : p < 192) : bb_cs L b p = bb_sl g e p := hk.2.2.2.2 p p0 p1
theorem bb_v_ws {D : Nat → Int → Int} {L : Nat → Int → Int64} {b : Nat} {g : Int → Int} {e mn : Int} (hk : bb_KB D L b g e mn) (hw : bb_WB g e mn) (hI : ab_IR g e) : ab_ff (bb_fw D L b 1) (ab_all D b) = bb_ws g e := by
  have hal := ab_rall_rg hI
  rw [bb_v_all hk]
  unfold bb_ws
  refine ab_ff_congr hal.1 (fun p p0 p1 => ?_)
  unfold bb_fw bb_wsF
  rw [bb_v_wr hk hw, bb_v_cs hk p0 (by omega)]
  by_cases h : ab_rwr g e p = 1 ∧ ¬ (bb_sl g e p = 1)
  · rw [if_pos ⟨h.1, fun x => h.2 x.2⟩, if_pos h]
  · rw [if_neg (fun x => h ⟨x.1, fun y => x.2 ⟨rfl, y⟩⟩), if_neg h]
theorem bb_cno221 {K : ab_Kt} {D : Nat → Int → Int} {L : Nat → Int → Int64} {z : ab_Z} {c : Int} {g : Int → Int} (hw : bb_WS c g) (hk : bb_KS D L 19 g) {b q : Int} (hb : ab_rg b) (hq : ab_rg q) {r d : Int} (h : bb_sp_glue g b q = .inl (r, d)) : ab_cal K 221 [.ref 18, .int (ab_I b), .int (ab_I q)] (ab_mk D L z) = some (.inl (some (.int (ab_I (-1)))), ab_mk (bb_cref D r d) L z) := by
  have n := bb_WS_n hw
  have hsp := ab_sp0
  obtain ⟨⟨q2, q3, q4, q5, q6, q7, q8, q9⟩, kp, ka, kb, kn⟩ := id hk
  unfold bb_sp_glue at h
  split at h
  · rename_i hx
    cases h
    simp (discharger := first | assumption | exact True.intro | exact not_false | (refine ab_gK ?_; with_unfolding_all rfl) | exact ab_rgI (by omega) (by omega) | omega) only [ab_a221, bb_y256, bb_y230 ab_sp0, q2, if_neg hx, ab_e221_0, ab_e221_1, ab_e221_4, ab_e221_5, ab_e221_8, ab_e221_11, ab_e221_12, ab_e221_13, ab_e221_14, ab_e221_17, ab_e221_18, ab_e221_19, ab_e221_22, bb_e221_23, bb_e221_26, ab_e221_27, ab_e221_30, ab_e221_31, ab_e221_32, ab_e221_33, ab_e221_36, ab_e221_37, ab_e221_38, ab_e221_39, ab_e221_40, ab_e221_43, ab_e221_46, ab_e221_47, ab_e221_48, ab_e221_49, ab_e221_52, ab_e221_55, ab_e221_56, ab_e221_57, ab_e221_58, ab_e221_59, ab_e221_62, ab_e221_65, ab_e221_66, ab_e221_68, ab_e221_69, ab_e221_72, ab_e221_73, ab_e221_74, ab_e221_77, ab_e221_78, ab_e221_81, ab_e221_84, ab_e221_85, ab_e221_87, ab_e221_88, ab_e221_91, ab_e221_94, ab_e221_95, ab_e221_96, ab_e221_97, ab_e221_100, ab_e221_101, ab_e221_102, ab_e221_105, bb_e221_106, ab_e221_109, bb_e221_110, ab_e221_111, ab_e221_114, ab_e221_115, ab_e221_118, ab_br_t, ab_br_f, ab_re_v (ab_zz _), ab_re_n (ab_zz _)]
  · rename_i hx
    have hx := Decidable.not_not.mp hx
    split at h
    · rename_i hq9
      cases h
      simp (discharger := first | assumption | exact True.intro | exact not_false | (refine ab_gK ?_; with_unfolding_all rfl) | exact ab_rgI (by omega) (by omega) | omega) only [ab_a221, bb_y256, bb_y230 ab_sp0, q2, if_pos hx, ab_e221_0, ab_e221_1, ab_e221_4, ab_e221_5, ab_e221_8, ab_e221_11, ab_e221_12, ab_e221_13, ab_e221_14, ab_e221_17, ab_e221_18, ab_e221_19, ab_e221_22, bb_e221_23, bb_e221_26, ab_e221_27, ab_e221_30, ab_e221_31, ab_e221_32, ab_e221_33, ab_e221_36, ab_e221_37, ab_e221_38, ab_e221_39, ab_e221_40, ab_e221_43, ab_e221_46, ab_e221_47, ab_e221_48, ab_e221_49, ab_e221_52, ab_e221_55, ab_e221_56, ab_e221_57, ab_e221_58, ab_e221_59, ab_e221_62, ab_e221_65, ab_e221_66, ab_e221_68, ab_e221_69, ab_e221_72, ab_e221_73, ab_e221_74, ab_e221_77, ab_e221_78, ab_e221_81, ab_e221_84, ab_e221_85, ab_e221_87, ab_e221_88, ab_e221_91, ab_e221_94, ab_e221_95, ab_e221_96, ab_e221_97, ab_e221_100, ab_e221_101, ab_e221_102, ab_e221_105, bb_e221_106, ab_e221_109, bb_e221_110, ab_e221_111, ab_e221_114, ab_e221_115, ab_e221_118, ab_br_t, ab_br_f, ab_re_v (ab_zz _), ab_re_n (ab_zz _)]
      iterate 2 (all_goals (try (refine ab_br_c (fun hc => ?_) (fun hc => ?_) <;> try simp (discharger := first | assumption | exact True.intro | exact not_false | (refine ab_gK ?_; with_unfolding_all rfl) | exact ab_rgI (by omega) (by omega) | omega) only [ab_a221, bb_y256, bb_y230 ab_sp0, q2, if_pos hx, ab_e221_0, ab_e221_1, ab_e221_4, ab_e221_5, ab_e221_8, ab_e221_11, ab_e221_12, ab_e221_13, ab_e221_14, ab_e221_17, ab_e221_18, ab_e221_19, ab_e221_22, bb_e221_23, bb_e221_26, ab_e221_27, ab_e221_30, ab_e221_31, ab_e221_32, ab_e221_33, ab_e221_36, ab_e221_37, ab_e221_38, ab_e221_39, ab_e221_40, ab_e221_43, ab_e221_46, ab_e221_47, ab_e221_48, ab_e221_49, ab_e221_52, ab_e221_55, ab_e221_56, ab_e221_57, ab_e221_58, ab_e221_59, ab_e221_62, ab_e221_65, ab_e221_66, ab_e221_68, ab_e221_69, ab_e221_72, ab_e221_73, ab_e221_74, ab_e221_77, ab_e221_78, ab_e221_81, ab_e221_84, ab_e221_85, ab_e221_87, ab_e221_88, ab_e221_91, ab_e221_94, ab_e221_95, ab_e221_96, ab_e221_97, ab_e221_100, ab_e221_101, ab_e221_102, ab_e221_105, bb_e221_106, ab_e221_109, bb_e221_110, ab_e221_111, ab_e221_114, ab_e221_115, ab_e221_118, ab_br_t, ab_br_f, ab_re_v (ab_zz _), ab_re_n (ab_zz _)])))
      all_goals omega
    · rename_i hq9
      have hq9 := Decidable.not_not.mp hq9
      split at h
      · rename_i x hh
        cases h
        simp (discharger := first | assumption | exact True.intro | exact not_false | (refine ab_gK ?_; with_unfolding_all rfl) | exact ab_rgI (by omega) (by omega) | omega) only [ab_a221, bb_y256, bb_y230 ab_sp0, q2, if_pos hx, bb_y258s hw hk hb ab_rg0 hh, ab_e221_0, ab_e221_1, ab_e221_4, ab_e221_5, ab_e221_8, ab_e221_11, ab_e221_12, ab_e221_13, ab_e221_14, ab_e221_17, ab_e221_18, ab_e221_19, ab_e221_22, bb_e221_23, bb_e221_26, ab_e221_27, ab_e221_30, ab_e221_31, ab_e221_32, ab_e221_33, ab_e221_36, ab_e221_37, ab_e221_38, ab_e221_39, ab_e221_40, ab_e221_43, ab_e221_46, ab_e221_47, ab_e221_48, ab_e221_49, ab_e221_52, ab_e221_55, ab_e221_56, ab_e221_57, ab_e221_58, ab_e221_59, ab_e221_62, ab_e221_65, ab_e221_66, ab_e221_68, ab_e221_69, ab_e221_72, ab_e221_73, ab_e221_74, ab_e221_77, ab_e221_78, ab_e221_81, ab_e221_84, ab_e221_85, ab_e221_87, ab_e221_88, ab_e221_91, ab_e221_94, ab_e221_95, ab_e221_96, ab_e221_97, ab_e221_100, ab_e221_101, ab_e221_102, ab_e221_105, bb_e221_106, ab_e221_109, bb_e221_110, ab_e221_111, ab_e221_114, ab_e221_115, ab_e221_118, ab_br_t, ab_br_f, ab_re_v (ab_zz _), ab_re_n (ab_zz _)]
      · rename_i _ hh
        have hm := bb_at_n hh
        have hb9 := bb_WS_W hw hm.1.1 hm.1.2
        have hn := bb_WB_n hb9
        have b0 := hm.1.1
        have b1 := hm.1.2
        have b6 : b < 6 := by omega
        have hbk := ab_bk_bI hsp b0 b6
        have eB := bb_bI_e 19 b
        have kk := kb b b0 b1
        have hIB := bb_KS_IB hw hk b0 b1
        have hI := bb_WS_IR hw b0 b1
        obtain ⟨⟨f0, f1, f2, f3, f4, f6⟩, f7, f5, -, -⟩ := id kk
        have fd := bb_nd_rg hb9 n.2.2.1.1
        split at h
        · rename_i h1
          cases h
          simp (discharger := first | assumption | exact True.intro | exact not_false | (refine ab_gK ?_; with_unfolding_all rfl) | exact ab_rgI (by omega) (by omega) | omega) only [ab_a221, bb_y256, bb_y230 ab_sp0, q2, if_pos hx, bb_y258n hw hk hb hh, f3, ab_e221_0, ab_e221_1, ab_e221_4, ab_e221_5, ab_e221_8, ab_e221_11, ab_e221_12, ab_e221_13, ab_e221_14, ab_e221_17, ab_e221_18, ab_e221_19, ab_e221_22, bb_e221_23, bb_e221_26, ab_e221_27, ab_e221_30, ab_e221_31, ab_e221_32, ab_e221_33, ab_e221_36, ab_e221_37, ab_e221_38, ab_e221_39, ab_e221_40, ab_e221_43, ab_e221_46, ab_e221_47, ab_e221_48, ab_e221_49, ab_e221_52, ab_e221_55, ab_e221_56, ab_e221_57, ab_e221_58, ab_e221_59, ab_e221_62, ab_e221_65, ab_e221_66, ab_e221_68, ab_e221_69, ab_e221_72, ab_e221_73, ab_e221_74, ab_e221_77, ab_e221_78, ab_e221_81, ab_e221_84, ab_e221_85, ab_e221_87, ab_e221_88, ab_e221_91, ab_e221_94, ab_e221_95, ab_e221_96, ab_e221_97, ab_e221_100, ab_e221_101, ab_e221_102, ab_e221_105, bb_e221_106, ab_e221_109, bb_e221_110, ab_e221_111, ab_e221_114, ab_e221_115, ab_e221_118, ab_br_t, ab_br_f, ab_re_v (ab_zz _), ab_re_n (ab_zz _)]
        · rename_i h1
          split at h
          · rename_i h2
            cases h
            simp (discharger := first | assumption | exact True.intro | exact not_false | (refine ab_gK ?_; with_unfolding_all rfl) | exact ab_rgI (by omega) (by omega) | omega) only [ab_a221, bb_y256, bb_y230 ab_sp0, q2, if_pos hx, bb_y258n hw hk hb hh, f3, f4, ab_e221_0, ab_e221_1, ab_e221_4, ab_e221_5, ab_e221_8, ab_e221_11, ab_e221_12, ab_e221_13, ab_e221_14, ab_e221_17, ab_e221_18, ab_e221_19, ab_e221_22, bb_e221_23, bb_e221_26, ab_e221_27, ab_e221_30, ab_e221_31, ab_e221_32, ab_e221_33, ab_e221_36, ab_e221_37, ab_e221_38, ab_e221_39, ab_e221_40, ab_e221_43, ab_e221_46, ab_e221_47, ab_e221_48, ab_e221_49, ab_e221_52, ab_e221_55, ab_e221_56, ab_e221_57, ab_e221_58, ab_e221_59, ab_e221_62, ab_e221_65, ab_e221_66, ab_e221_68, ab_e221_69, ab_e221_72, ab_e221_73, ab_e221_74, ab_e221_77, ab_e221_78, ab_e221_81, ab_e221_84, ab_e221_85, ab_e221_87, ab_e221_88, ab_e221_91, ab_e221_94, ab_e221_95, ab_e221_96, ab_e221_97, ab_e221_100, ab_e221_101, ab_e221_102, ab_e221_105, bb_e221_106, ab_e221_109, bb_e221_110, ab_e221_111, ab_e221_114, ab_e221_115, ab_e221_118, ab_br_t, ab_br_f, ab_re_v (ab_zz _), ab_re_n (ab_zz _)]
          · cases h

theorem bb_cok221 {K : ab_Kt} {D : Nat → Int → Int} {L : Nat → Int → Int64} {z : ab_Z} {c : Int} {g : Int → Int} (hw : bb_WS c g) (hk : bb_KS D L 19 g) {b q : Int} (hb : ab_rg b) (hq : ab_rg q) {v : Int} {g' : Int → Int} (h : bb_sp_glue g b q = .inr (v, g')) : ∃ D' L', ab_cal K 221 [.ref 18, .int (ab_I b), .int (ab_I q)] (ab_mk D L z) = some (.inl (some (.int (ab_I v))), ab_mk D' L' z) ∧ bb_KS D' L' 19 g' ∧ bb_FR D L D' L' := by
  have n := bb_WS_n hw
  have hsp := ab_sp0
  obtain ⟨⟨q2, q3, q4, q5, q6, q7, q8, q9⟩, kp, ka, kb, kn⟩ := id hk
  unfold bb_sp_glue at h
  split at h
  · rename_i hx
    cases h
  · rename_i hx
    have hx := Decidable.not_not.mp hx
    split at h
    · rename_i hq9
      cases h
    · rename_i hq9
      have hq9 := Decidable.not_not.mp hq9
      split at h
      · rename_i x hh
        cases h
      · rename_i _ hh
        have hm := bb_at_n hh
        have hb9 := bb_WS_W hw hm.1.1 hm.1.2
        have hn := bb_WB_n hb9
        have b0 := hm.1.1
        have b1 := hm.1.2
        have b6 : b < 6 := by omega
        have hbk := ab_bk_bI hsp b0 b6
        have eB := bb_bI_e 19 b
        have kk := kb b b0 b1
        have hIB := bb_KS_IB hw hk b0 b1
        have hI := bb_WS_IR hw b0 b1
        obtain ⟨⟨f0, f1, f2, f3, f4, f6⟩, f7, f5, -, -⟩ := id kk
        have fd := bb_nd_rg hb9 n.2.2.1.1
        split at h
        · cases h
        · rename_i h1
          split at h
          · cases h
          · rename_i h2
            obtain ⟨hv, hg⟩ := Prod.mk.inj (Sum.inr.inj h)
            have hsr := bb_set_rg (q := q)
            have nsB : 19 ≠ ab_bI 19 b := by omega
            have nBs : ab_bI 19 b ≠ 19 := by omega
            obtain ⟨D', hD'⟩ : ∃ x, x = (ab_u (ab_u (ab_u D (ab_bI 19 b) 2 (1)) (ab_bI 19 b) 6 (q)) (ab_bI 19 b) 7 (bb_set q)) := ⟨_, rfl⟩
            have hrow : ∀ i, i ≠ 19 → i ≠ ab_bI 19 b → D' i = D i := fun i h1 h2 => by rw [hD', ab_u_row h2, ab_u_row h2, ab_u_row h2]
            have s2 : D' 19 2 = D 19 2 := by rw [hD', ab_u_row nsB, ab_u_row nsB, ab_u_row nsB]
            have s3 : D' 19 3 = D 19 3 := by rw [hD', ab_u_row nsB, ab_u_row nsB, ab_u_row nsB]
            have s4 : D' 19 4 = D 19 4 := by rw [hD', ab_u_row nsB, ab_u_row nsB, ab_u_row nsB]
            have s5 : D' 19 5 = D 19 5 := by rw [hD', ab_u_row nsB, ab_u_row nsB, ab_u_row nsB]
            have s6 : D' 19 6 = D 19 6 := by rw [hD', ab_u_row nsB, ab_u_row nsB, ab_u_row nsB]
            have s7 : D' 19 7 = D 19 7 := by rw [hD', ab_u_row nsB, ab_u_row nsB, ab_u_row nsB]
            have s8 : D' 19 8 = D 19 8 := by rw [hD', ab_u_row nsB, ab_u_row nsB, ab_u_row nsB]
            have s9 : D' 19 9 = D 19 9 := by rw [hD', ab_u_row nsB, ab_u_row nsB, ab_u_row nsB]
            have c0 : D' (ab_bI 19 b) 0 = D (ab_bI 19 b) 0 := by rw [hD', ab_u_ne (.inr (by decide)), ab_u_ne (.inr (by decide)), ab_u_ne (.inr (by decide))]
            have c1 : D' (ab_bI 19 b) 1 = D (ab_bI 19 b) 1 := by rw [hD', ab_u_ne (.inr (by decide)), ab_u_ne (.inr (by decide)), ab_u_ne (.inr (by decide))]
            have c2 : D' (ab_bI 19 b) 2 = 1 := by rw [hD', ab_u_ne (.inr (by decide)), ab_u_ne (.inr (by decide)), ab_u_eq]
            have c3 : D' (ab_bI 19 b) 3 = D (ab_bI 19 b) 3 := by rw [hD', ab_u_ne (.inr (by decide)), ab_u_ne (.inr (by decide)), ab_u_ne (.inr (by decide))]
            have c4 : D' (ab_bI 19 b) 4 = D (ab_bI 19 b) 4 := by rw [hD', ab_u_ne (.inr (by decide)), ab_u_ne (.inr (by decide)), ab_u_ne (.inr (by decide))]
            have c5 : D' (ab_bI 19 b) 5 = D (ab_bI 19 b) 5 := by rw [hD', ab_u_ne (.inr (by decide)), ab_u_ne (.inr (by decide)), ab_u_ne (.inr (by decide))]
            have c6 : D' (ab_bI 19 b) 6 = q := by rw [hD', ab_u_ne (.inr (by decide)), ab_u_eq]
            have c7 : D' (ab_bI 19 b) 7 = bb_set q := by rw [hD', ab_u_eq]
            obtain ⟨G, hG⟩ : ∃ x, x = (bb_g1 (bb_g1 (bb_g1 g (16 + 51 * b + 2) (1)) (16 + 51 * b + 5) (q)) (16 + 51 * b + 6) (g 0 + bb_set q)) := ⟨_, rfl⟩
            have l0 : G 0 = g 0 := by rw [hG, bb_g1_ne (by omega), bb_g1_ne (by omega), bb_g1_ne (by omega)]
            have l1 : G 1 = g 1 := by rw [hG, bb_g1_ne (by omega), bb_g1_ne (by omega), bb_g1_ne (by omega)]
            have l2 : G 2 = g 2 := by rw [hG, bb_g1_ne (by omega), bb_g1_ne (by omega), bb_g1_ne (by omega)]
            have l3 : G 3 = g 3 := by rw [hG, bb_g1_ne (by omega), bb_g1_ne (by omega), bb_g1_ne (by omega)]
            have l4 : G 4 = g 4 := by rw [hG, bb_g1_ne (by omega), bb_g1_ne (by omega), bb_g1_ne (by omega)]
            have l5 : G 5 = g 5 := by rw [hG, bb_g1_ne (by omega), bb_g1_ne (by omega), bb_g1_ne (by omega)]
            have l6 : G 6 = g 6 := by rw [hG, bb_g1_ne (by omega), bb_g1_ne (by omega), bb_g1_ne (by omega)]
            have l7 : G 7 = g 7 := by rw [hG, bb_g1_ne (by omega), bb_g1_ne (by omega), bb_g1_ne (by omega)]
            have lp : ∀ k, 8 ≤ k → k < 16 → G k = g k := fun k a d => by rw [hG, bb_g1_ne (by omega), bb_g1_ne (by omega), bb_g1_ne (by omega)]
            have r2 : bb_R G b 2 = 1 := by rw [hG, bb_R_g1 (by omega) (by omega) (by omega) (by omega), if_neg (by omega), bb_R_g1 (by omega) (by omega) (by omega) (by omega), if_neg (by omega), bb_R_g1 (by omega) (by omega) (by omega) (by omega), if_pos ⟨rfl, rfl⟩]
            have r4 : bb_R G b 4 = bb_R g b 4 := by rw [hG, bb_R_g1 (by omega) (by omega) (by omega) (by omega), if_neg (by omega), bb_R_g1 (by omega) (by omega) (by omega) (by omega), if_neg (by omega), bb_R_g1 (by omega) (by omega) (by omega) (by omega), if_neg (by omega)]
            have r5 : bb_R G b 5 = q := by rw [hG, bb_R_g1 (by omega) (by omega) (by omega) (by omega), if_neg (by omega), bb_R_g1 (by omega) (by omega) (by omega) (by omega), if_pos ⟨rfl, rfl⟩]
            have r6 : bb_R G b 6 = g 0 + bb_set q := by rw [hG, bb_R_g1 (by omega) (by omega) (by omega) (by omega), if_pos ⟨rfl, rfl⟩]
            have ro : ∀ w, 0 ≤ w → w < 51 → w ≠ 2 → w ≠ 4 → w ≠ 5 → w ≠ 6 → bb_R G b w = bb_R g b w := fun w w0 w1 w2 w4 w5 w6 => by
              have e0 := b0
              rw [hG, bb_R_g1 w0 w1 (by omega) (by omega), if_neg (by omega), bb_R_g1 w0 w1 (by omega) (by omega), if_neg (by omega), bb_R_g1 w0 w1 (by omega) (by omega), if_neg (by omega)]
            have re : ∀ e, 0 ≤ e → e ≠ b → ∀ w, 0 ≤ w → w < 51 → bb_R G e w = bb_R g e w := fun e e0 he w w0 w1 => by rw [hG, bb_R_g1 w0 w1 (by omega) (by omega), if_neg (fun x => he x.1), bb_R_g1 w0 w1 (by omega) (by omega), if_neg (fun x => he x.1), bb_R_g1 w0 w1 (by omega) (by omega), if_neg (fun x => he x.1)]
            have hrun : ab_cal K 221 [.ref 18, .int (ab_I b), .int (ab_I q)] (ab_mk D L z) = some (.inl (some (.int (ab_I v))), ab_mk D' L z) := by
              rw [hD', ← hv]
              simp (discharger := first | assumption | exact True.intro | exact not_false | (refine ab_gK ?_; with_unfolding_all rfl) | exact ab_rgI (by omega) (by omega) | omega) only [ab_a221, bb_y256, bb_y230 ab_sp0, q2, if_pos hx, bb_y258n hw hk hb hh, ab_u_eq, f3, f4, ab_e221_0, ab_e221_1, ab_e221_4, ab_e221_5, ab_e221_8, ab_e221_11, ab_e221_12, ab_e221_13, ab_e221_14, ab_e221_17, ab_e221_18, ab_e221_19, ab_e221_22, bb_e221_23, bb_e221_26, ab_e221_27, ab_e221_30, ab_e221_31, ab_e221_32, ab_e221_33, ab_e221_36, ab_e221_37, ab_e221_38, ab_e221_39, ab_e221_40, ab_e221_43, ab_e221_46, ab_e221_47, ab_e221_48, ab_e221_49, ab_e221_52, ab_e221_55, ab_e221_56, ab_e221_57, ab_e221_58, ab_e221_59, ab_e221_62, ab_e221_65, ab_e221_66, ab_e221_68, ab_e221_69, ab_e221_72, ab_e221_73, ab_e221_74, ab_e221_77, ab_e221_78, ab_e221_81, ab_e221_84, ab_e221_85, ab_e221_87, ab_e221_88, ab_e221_91, ab_e221_94, ab_e221_95, ab_e221_96, ab_e221_97, ab_e221_100, ab_e221_101, ab_e221_102, ab_e221_105, bb_e221_106, ab_e221_109, bb_e221_110, ab_e221_111, ab_e221_114, ab_e221_115, ab_e221_118, ab_br_t, ab_br_f, ab_re_v (ab_zz _), ab_re_n (ab_zz _)]
            refine ⟨D', L, hrun, ?_, fun i hi => ⟨hrow i (by omega) (by omega), rfl⟩⟩
            rw [← hg, ← hG]
            refine bb_KS_bk hw hk b0 b1 ⟨by omega, by omega, by omega, by omega, by omega, by omega, by omega, by omega⟩ (fun p p0 p1 => ?_) (bb_AB_r (ka b b0 b6) (fun i a d => hrow i (by omega) (by omega))) ?_ (fun i a d e => ⟨hrow i (by omega) (by omega), rfl⟩) (fun e' a d he w w0 w1 => (re e' a he w w0 w1).symm) (by omega) (by omega)
            · have e9 := bb_pI_e 19 p
              rw [hrow _ (by omega) (by omega), hrow _ (by omega) (by omega), lp _ (by omega) (by omega)]
              exact ⟨(kp p p0 p1).1, fun k a d => by rw [lp _ (by omega) (by omega)]; exact (kp p p0 p1).2 k a d⟩
            · refine bb_KB_f hn.2.2.2.1.2 kk (fun i a d => ⟨hrow i (by omega) (by omega), rfl⟩) c0 c1 c3 c5 ro (by rw [r2]; omega) (by rw [r4]; omega) (by rw [r5]; omega) ?_
              rw [c7]; unfold bb_nd; rw [r5, r6, l0]; omega

theorem bb_cno217 {K : ab_Kt} {D : Nat → Int → Int} {L : Nat → Int → Int64} {z : ab_Z} {c : Int} {g : Int → Int} (hw : bb_WS c g) (hk : bb_KS D L 19 g) {b : Int} (hb : ab_rg b) {r d : Int} (h : bb_sp_deliver g b = .inl (r, d)) : ab_cal K 217 [.ref 18, .int (ab_I b)] (ab_mk D L z) = some (.inl (some (.int (ab_I (-1)))), ab_mk (bb_cref D r d) L z) := by
  have n := bb_WS_n hw
  have hsp := ab_sp0
  obtain ⟨⟨q2, q3, q4, q5, q6, q7, q8, q9⟩, kp, ka, kb, kn⟩ := id hk
  have hr3 : ab_rg 3 := ab_rgI (by omega) (by omega)
  unfold bb_sp_deliver at h
  split at h
  · rename_i x hh
    cases h
    simp (discharger := first | assumption | exact True.intro | exact not_false | (refine ab_gK ?_; with_unfolding_all rfl) | exact ab_rgI (by omega) (by omega) | omega) only [ab_a217, bb_y258s hw hk hb hr3 hh, ab_e217_0, ab_e217_1, ab_e217_2, ab_e217_3, ab_e217_6, ab_e217_9, ab_e217_10, ab_e217_11, ab_e217_12, ab_e217_15, ab_e217_18, ab_e217_19, ab_e217_20, ab_e217_21, ab_e217_22, ab_e217_23, ab_e217_26, ab_e217_27, ab_e217_28, ab_e217_29, ab_e217_32, ab_e217_33, ab_e217_35, ab_e217_36, ab_e217_39, ab_e217_40, ab_e217_41, ab_e217_44, ab_e217_46, ab_e217_48, ab_e217_49, ab_e217_52, ab_e217_55, ab_e217_58, ab_e217_59, ab_e217_61, ab_e217_63, ab_e217_64, ab_e217_67, ab_e217_70, ab_e217_71, ab_e217_74, ab_e217_75, ab_e217_76, ab_e217_79, ab_e217_80, ab_e217_83, ab_e217_84, ab_e217_86, ab_e217_87, ab_e217_89, ab_e217_90, ab_e217_93, ab_e217_94, ab_e217_97, ab_e217_99, ab_e217_101, ab_e217_102, ab_e217_103, ab_e217_106, ab_e217_107, ab_e217_110, ab_e217_111, ab_e217_114, ab_e217_116, ab_e217_117, ab_e217_120, ab_e217_121, ab_e217_122, ab_e217_125, ab_e217_127, ab_br_t, ab_br_f, ab_re_v (ab_zz _), ab_re_n (ab_zz _)]
  · rename_i hh
    have hm := bb_at_n hh
    have hb9 := bb_WS_W hw hm.1.1 hm.1.2
    have hn := bb_WB_n hb9
    have b0 := hm.1.1
    have b1 := hm.1.2
    have b6 : b < 6 := by omega
    have hbk := ab_bk_bI hsp b0 b6
    have eB := bb_bI_e 19 b
    have kk := kb b b0 b1
    have hIB := bb_KS_IB hw hk b0 b1
    have hI := bb_WS_IR hw b0 b1
    obtain ⟨⟨f0, f1, f2, f3, f4, f6⟩, f7, f5, -, -⟩ := id kk
    have fd := bb_nd_rg hb9 n.2.2.1.1
    have hws : -1 ≤ bb_ws g b ∧ bb_ws g b ≤ 192 := by
      have hal := ab_rall_rg hI
      have := ab_ff_rg (g := bb_wsF g b) hal.1
      have e : bb_ws g b = ab_ff (bb_wsF g b) (ab_rall g b) := rfl
      omega
    have hmi := ab_rmiss_rg hI
    have hal := ab_rall_rg hI
    have hwr := ab_rwrong_rg hI
    have val := bb_v_all kk
    have vws := bb_v_ws kk hb9 hI
    rw [val] at vws
    have vmi := bb_v_miss kk
    have vwr := bb_v_wrong kk hb9
    have hr1 : ab_rg 3 := ab_rgI (by omega) (by omega)
    split at h
    · rename_i h1
      cases h
      simp (discharger := first | assumption | exact True.intro | exact not_false | (refine ab_gK ?_; with_unfolding_all rfl) | exact ab_rgI (by omega) (by omega) | omega) only [ab_a217, bb_y256, bb_y212 hbk hIB (.inr rfl), ab_y211 hbk hIB, vws, vmi, q4, val, bb_y258n hw hk hb hh, ab_e217_0, ab_e217_1, ab_e217_2, ab_e217_3, ab_e217_6, ab_e217_9, ab_e217_10, ab_e217_11, ab_e217_12, ab_e217_15, ab_e217_18, ab_e217_19, ab_e217_20, ab_e217_21, ab_e217_22, ab_e217_23, ab_e217_26, ab_e217_27, ab_e217_28, ab_e217_29, ab_e217_32, ab_e217_33, ab_e217_35, ab_e217_36, ab_e217_39, ab_e217_40, ab_e217_41, ab_e217_44, ab_e217_46, ab_e217_48, ab_e217_49, ab_e217_52, ab_e217_55, ab_e217_58, ab_e217_59, ab_e217_61, ab_e217_63, ab_e217_64, ab_e217_67, ab_e217_70, ab_e217_71, ab_e217_74, ab_e217_75, ab_e217_76, ab_e217_79, ab_e217_80, ab_e217_83, ab_e217_84, ab_e217_86, ab_e217_87, ab_e217_89, ab_e217_90, ab_e217_93, ab_e217_94, ab_e217_97, ab_e217_99, ab_e217_101, ab_e217_102, ab_e217_103, ab_e217_106, ab_e217_107, ab_e217_110, ab_e217_111, ab_e217_114, ab_e217_116, ab_e217_117, ab_e217_120, ab_e217_121, ab_e217_122, ab_e217_125, ab_e217_127, ab_br_t, ab_br_f, ab_re_v (ab_zz _), ab_re_n (ab_zz _)]
    · rename_i h1
      have h1 : bb_ws g b = -1 := by omega
      split at h
      · rename_i h3
        cases h
        simp (discharger := first | assumption | exact True.intro | exact not_false | (refine ab_gK ?_; with_unfolding_all rfl) | exact ab_rgI (by omega) (by omega) | omega) only [ab_a217, bb_y256, bb_y212 hbk hIB (.inr rfl), ab_y211 hbk hIB, vws, vmi, q4, val, bb_y258n hw hk hb hh, ab_e217_0, ab_e217_1, ab_e217_2, ab_e217_3, ab_e217_6, ab_e217_9, ab_e217_10, ab_e217_11, ab_e217_12, ab_e217_15, ab_e217_18, ab_e217_19, ab_e217_20, ab_e217_21, ab_e217_22, ab_e217_23, ab_e217_26, ab_e217_27, ab_e217_28, ab_e217_29, ab_e217_32, ab_e217_33, ab_e217_35, ab_e217_36, ab_e217_39, ab_e217_40, ab_e217_41, ab_e217_44, ab_e217_46, ab_e217_48, ab_e217_49, ab_e217_52, ab_e217_55, ab_e217_58, ab_e217_59, ab_e217_61, ab_e217_63, ab_e217_64, ab_e217_67, ab_e217_70, ab_e217_71, ab_e217_74, ab_e217_75, ab_e217_76, ab_e217_79, ab_e217_80, ab_e217_83, ab_e217_84, ab_e217_86, ab_e217_87, ab_e217_89, ab_e217_90, ab_e217_93, ab_e217_94, ab_e217_97, ab_e217_99, ab_e217_101, ab_e217_102, ab_e217_103, ab_e217_106, ab_e217_107, ab_e217_110, ab_e217_111, ab_e217_114, ab_e217_116, ab_e217_117, ab_e217_120, ab_e217_121, ab_e217_122, ab_e217_125, ab_e217_127, ab_br_t, ab_br_f, ab_re_v (ab_zz _), ab_re_n (ab_zz _)]
      · cases h

theorem bb_cok217 {K : ab_Kt} {D : Nat → Int → Int} {L : Nat → Int → Int64} {z : ab_Z} {c : Int} {g : Int → Int} (hw : bb_WS c g) (hk : bb_KS D L 19 g) {b : Int} (hb : ab_rg b) {v : Int} {g' : Int → Int} (h : bb_sp_deliver g b = .inr (v, g')) : ∃ D' L', ab_cal K 217 [.ref 18, .int (ab_I b)] (ab_mk D L z) = some (.inl (some (.int (ab_I v))), ab_mk D' L' z) ∧ bb_KS D' L' 19 g' ∧ bb_FR D L D' L' := by
  have n := bb_WS_n hw
  have hsp := ab_sp0
  obtain ⟨⟨q2, q3, q4, q5, q6, q7, q8, q9⟩, kp, ka, kb, kn⟩ := id hk
  unfold bb_sp_deliver at h
  split at h
  · rename_i x hh
    cases h
  · rename_i hh
    have hm := bb_at_n hh
    have hb9 := bb_WS_W hw hm.1.1 hm.1.2
    have hn := bb_WB_n hb9
    have b0 := hm.1.1
    have b1 := hm.1.2
    have b6 : b < 6 := by omega
    have hbk := ab_bk_bI hsp b0 b6
    have eB := bb_bI_e 19 b
    have kk := kb b b0 b1
    have hIB := bb_KS_IB hw hk b0 b1
    have hI := bb_WS_IR hw b0 b1
    obtain ⟨⟨f0, f1, f2, f3, f4, f6⟩, f7, f5, -, -⟩ := id kk
    have fd := bb_nd_rg hb9 n.2.2.1.1
    have hws : -1 ≤ bb_ws g b ∧ bb_ws g b ≤ 192 := by
      have hal := ab_rall_rg hI
      have := ab_ff_rg (g := bb_wsF g b) hal.1
      have e : bb_ws g b = ab_ff (bb_wsF g b) (ab_rall g b) := rfl
      omega
    have hmi := ab_rmiss_rg hI
    have hal := ab_rall_rg hI
    have hwr := ab_rwrong_rg hI
    have val := bb_v_all kk
    have vws := bb_v_ws kk hb9 hI
    rw [val] at vws
    have vmi := bb_v_miss kk
    have vwr := bb_v_wrong kk hb9
    have hr1 : ab_rg 3 := ab_rgI (by omega) (by omega)
    split at h
    · cases h
    · rename_i h1
      have h1 : bb_ws g b = -1 := by omega
      split at h
      · cases h
      · rename_i h3
        obtain ⟨hv, hg⟩ := Prod.mk.inj (Sum.inr.inj h)
        have hbr : bb_br g b = (ab_rall g b - ab_rwrong g b) / 8 := rfl
        have nsB : 19 ≠ ab_bI 19 b := by omega
        have nBs : ab_bI 19 b ≠ 19 := by omega
        obtain ⟨D', hD'⟩ : ∃ x, x = (ab_u (ab_u (ab_u D 19 4 (g 1 + (bb_br g b - ab_rmiss g b))) 19 9 (D 19 9 + bb_br g b)) (ab_bI 19 b) 2 (4)) := ⟨_, rfl⟩
        have hrow : ∀ i, i ≠ 19 → i ≠ ab_bI 19 b → D' i = D i := fun i h1 h2 => by rw [hD', ab_u_row h2, ab_u_row h1, ab_u_row h1]
        have s2 : D' 19 2 = D 19 2 := by rw [hD', ab_u_row nsB, ab_u_ne (.inr (by decide)), ab_u_ne (.inr (by decide))]
        have s3 : D' 19 3 = D 19 3 := by rw [hD', ab_u_row nsB, ab_u_ne (.inr (by decide)), ab_u_ne (.inr (by decide))]
        have s4 : D' 19 4 = g 1 + (bb_br g b - ab_rmiss g b) := by rw [hD', ab_u_row nsB, ab_u_ne (.inr (by decide)), ab_u_eq]
        have s5 : D' 19 5 = D 19 5 := by rw [hD', ab_u_row nsB, ab_u_ne (.inr (by decide)), ab_u_ne (.inr (by decide))]
        have s6 : D' 19 6 = D 19 6 := by rw [hD', ab_u_row nsB, ab_u_ne (.inr (by decide)), ab_u_ne (.inr (by decide))]
        have s7 : D' 19 7 = D 19 7 := by rw [hD', ab_u_row nsB, ab_u_ne (.inr (by decide)), ab_u_ne (.inr (by decide))]
        have s8 : D' 19 8 = D 19 8 := by rw [hD', ab_u_row nsB, ab_u_ne (.inr (by decide)), ab_u_ne (.inr (by decide))]
        have s9 : D' 19 9 = D 19 9 + bb_br g b := by rw [hD', ab_u_row nsB, ab_u_eq]
        have c0 : D' (ab_bI 19 b) 0 = D (ab_bI 19 b) 0 := by rw [hD', ab_u_ne (.inr (by decide)), ab_u_row nBs, ab_u_row nBs]
        have c1 : D' (ab_bI 19 b) 1 = D (ab_bI 19 b) 1 := by rw [hD', ab_u_ne (.inr (by decide)), ab_u_row nBs, ab_u_row nBs]
        have c2 : D' (ab_bI 19 b) 2 = 4 := by rw [hD', ab_u_eq]
        have c3 : D' (ab_bI 19 b) 3 = D (ab_bI 19 b) 3 := by rw [hD', ab_u_ne (.inr (by decide)), ab_u_row nBs, ab_u_row nBs]
        have c4 : D' (ab_bI 19 b) 4 = D (ab_bI 19 b) 4 := by rw [hD', ab_u_ne (.inr (by decide)), ab_u_row nBs, ab_u_row nBs]
        have c5 : D' (ab_bI 19 b) 5 = D (ab_bI 19 b) 5 := by rw [hD', ab_u_ne (.inr (by decide)), ab_u_row nBs, ab_u_row nBs]
        have c6 : D' (ab_bI 19 b) 6 = D (ab_bI 19 b) 6 := by rw [hD', ab_u_ne (.inr (by decide)), ab_u_row nBs, ab_u_row nBs]
        have c7 : D' (ab_bI 19 b) 7 = D (ab_bI 19 b) 7 := by rw [hD', ab_u_ne (.inr (by decide)), ab_u_row nBs, ab_u_row nBs]
        obtain ⟨G, hG⟩ : ∃ x, x = (bb_g1 (bb_g1 (bb_g1 g 1 (g 1 + (bb_br g b - ab_rmiss g b))) 7 (g 7 + bb_br g b)) (16 + 51 * b + 2) (4)) := ⟨_, rfl⟩
        have l0 : G 0 = g 0 := by rw [hG, bb_g1_ne (by omega), bb_g1_ne (by omega), bb_g1_ne (by omega)]
        have l1 : G 1 = g 1 + (bb_br g b - ab_rmiss g b) := by rw [hG, bb_g1_ne (by omega), bb_g1_ne (by omega), bb_g1_eq]
        have l2 : G 2 = g 2 := by rw [hG, bb_g1_ne (by omega), bb_g1_ne (by omega), bb_g1_ne (by omega)]
        have l3 : G 3 = g 3 := by rw [hG, bb_g1_ne (by omega), bb_g1_ne (by omega), bb_g1_ne (by omega)]
        have l4 : G 4 = g 4 := by rw [hG, bb_g1_ne (by omega), bb_g1_ne (by omega), bb_g1_ne (by omega)]
        have l5 : G 5 = g 5 := by rw [hG, bb_g1_ne (by omega), bb_g1_ne (by omega), bb_g1_ne (by omega)]
        have l6 : G 6 = g 6 := by rw [hG, bb_g1_ne (by omega), bb_g1_ne (by omega), bb_g1_ne (by omega)]
        have l7 : G 7 = g 7 + bb_br g b := by rw [hG, bb_g1_ne (by omega), bb_g1_eq]
        have lp : ∀ k, 8 ≤ k → k < 16 → G k = g k := fun k a d => by rw [hG, bb_g1_ne (by omega), bb_g1_ne (by omega), bb_g1_ne (by omega)]
        have r2 : bb_R G b 2 = 4 := by rw [hG, bb_R_g1 (by omega) (by omega) (by omega) (by omega), if_pos ⟨rfl, rfl⟩]
        have r4 : bb_R G b 4 = bb_R g b 4 := by rw [hG, bb_R_g1 (by omega) (by omega) (by omega) (by omega), if_neg (by omega), bb_R_lo b0 (by omega) (by omega), bb_R_lo b0 (by omega) (by omega)]
        have r5 : bb_R G b 5 = bb_R g b 5 := by rw [hG, bb_R_g1 (by omega) (by omega) (by omega) (by omega), if_neg (by omega), bb_R_lo b0 (by omega) (by omega), bb_R_lo b0 (by omega) (by omega)]
        have r6 : bb_R G b 6 = bb_R g b 6 := by rw [hG, bb_R_g1 (by omega) (by omega) (by omega) (by omega), if_neg (by omega), bb_R_lo b0 (by omega) (by omega), bb_R_lo b0 (by omega) (by omega)]
        have ro : ∀ w, 0 ≤ w → w < 51 → w ≠ 2 → w ≠ 4 → w ≠ 5 → w ≠ 6 → bb_R G b w = bb_R g b w := fun w w0 w1 w2 w4 w5 w6 => by
          have e0 := b0
          rw [hG, bb_R_g1 w0 w1 (by omega) (by omega), if_neg (by omega), bb_R_lo e0 w0 (by omega), bb_R_lo e0 w0 (by omega)]
        have re : ∀ e, 0 ≤ e → e ≠ b → ∀ w, 0 ≤ w → w < 51 → bb_R G e w = bb_R g e w := fun e e0 he w w0 w1 => by rw [hG, bb_R_g1 w0 w1 (by omega) (by omega), if_neg (fun x => he x.1), bb_R_lo e0 w0 (by omega), bb_R_lo e0 w0 (by omega)]
        have hrun : ab_cal K 217 [.ref 18, .int (ab_I b)] (ab_mk D L z) = some (.inl (some (.int (ab_I v))), ab_mk D' L z) := by
          rw [hD', ← hv]
          simp (discharger := first | assumption | exact True.intro | exact not_false | (refine ab_gK ?_; with_unfolding_all rfl) | exact ab_rgI (by omega) (by omega) | omega) only [ab_a217, bb_y256, bb_y212 hbk hIB (.inr rfl), ab_y211 hbk hIB, vws, vmi, q4, val, bb_y258n hw hk hb hh, ab_y183 hbk hIB, ab_y184 hbk hIB, vwr, ab_u_ne, hbr, ab_e217_0, ab_e217_1, ab_e217_2, ab_e217_3, ab_e217_6, ab_e217_9, ab_e217_10, ab_e217_11, ab_e217_12, ab_e217_15, ab_e217_18, ab_e217_19, ab_e217_20, ab_e217_21, ab_e217_22, ab_e217_23, ab_e217_26, ab_e217_27, ab_e217_28, ab_e217_29, ab_e217_32, ab_e217_33, ab_e217_35, ab_e217_36, ab_e217_39, ab_e217_40, ab_e217_41, ab_e217_44, ab_e217_46, ab_e217_48, ab_e217_49, ab_e217_52, ab_e217_55, ab_e217_58, ab_e217_59, ab_e217_61, ab_e217_63, ab_e217_64, ab_e217_67, ab_e217_70, ab_e217_71, ab_e217_74, ab_e217_75, ab_e217_76, ab_e217_79, ab_e217_80, ab_e217_83, ab_e217_84, ab_e217_86, ab_e217_87, ab_e217_89, ab_e217_90, ab_e217_93, ab_e217_94, ab_e217_97, ab_e217_99, ab_e217_101, ab_e217_102, ab_e217_103, ab_e217_106, ab_e217_107, ab_e217_110, ab_e217_111, ab_e217_114, ab_e217_116, ab_e217_117, ab_e217_120, ab_e217_121, ab_e217_122, ab_e217_125, ab_e217_127, ab_br_t, ab_br_f, ab_re_v (ab_zz _), ab_re_n (ab_zz _)]
        refine ⟨D', L, hrun, ?_, fun i hi => ⟨hrow i (by omega) (by omega), rfl⟩⟩
        rw [← hg, ← hG]
        refine bb_KS_bk hw hk b0 b1 ⟨by omega, by omega, by omega, by omega, by omega, by omega, by omega, by omega⟩ (fun p p0 p1 => ?_) (bb_AB_r (ka b b0 b6) (fun i a d => hrow i (by omega) (by omega))) ?_ (fun i a d e => ⟨hrow i (by omega) (by omega), rfl⟩) (fun e' a d he w w0 w1 => (re e' a he w w0 w1).symm) (by omega) (by omega)
        · have e9 := bb_pI_e 19 p
          rw [hrow _ (by omega) (by omega), hrow _ (by omega) (by omega), lp _ (by omega) (by omega)]
          exact ⟨(kp p p0 p1).1, fun k a d => by rw [lp _ (by omega) (by omega)]; exact (kp p p0 p1).2 k a d⟩
        · refine bb_KB_f hn.2.2.2.1.2 kk (fun i a d => ⟨hrow i (by omega) (by omega), rfl⟩) c0 c1 c3 c5 ro (by rw [r2]; omega) (by rw [r4]; omega) (by rw [r5]; omega) ?_
          rw [c7, f7]; unfold bb_nd; rw [r5, r6, l0]

theorem bb_cno220 {K : ab_Kt} {D : Nat → Int → Int} {L : Nat → Int → Int64} {z : ab_Z} {c : Int} {g : Int → Int} (hw : bb_WS c g) (hk : bb_KS D L 19 g) {b p : Int} (hb : ab_rg b) (hp : ab_rg p) {r d : Int} (h : bb_sp_press g b p = .inl (r, d)) : ab_cal K 220 [.ref 18, .int (ab_I b), .int (ab_I p)] (ab_mk D L z) = some (.inl (some (.int (ab_I (-1)))), ab_mk (bb_cref D r d) L z) := by
  have n := bb_WS_n hw
  have hsp := ab_sp0
  obtain ⟨⟨q2, q3, q4, q5, q6, q7, q8, q9⟩, kp, ka, kb, kn⟩ := id hk
  unfold bb_sp_press at h
  have hr1 : ab_rg 1 := ab_rgI (by omega) (by omega)
  split at h
  · rename_i hx
    cases h
    simp (discharger := first | assumption | exact True.intro | exact not_false | (refine ab_gK ?_; with_unfolding_all rfl) | exact ab_rgI (by omega) (by omega) | omega) only [ab_a220, bb_y256, bb_y230 ab_sp0, bb_y248 ab_sp0, q2, if_neg hx, ab_e220_0, ab_e220_1, ab_e220_4, ab_e220_5, ab_e220_8, ab_e220_11, ab_e220_12, ab_e220_13, ab_e220_14, ab_e220_17, ab_e220_18, ab_e220_19, ab_e220_22, ab_e220_23, ab_e220_26, ab_e220_29, ab_e220_30, ab_e220_31, ab_e220_32, ab_e220_35, ab_e220_36, ab_e220_37, ab_e220_38, ab_e220_39, ab_e220_42, ab_e220_45, ab_e220_46, ab_e220_47, ab_e220_48, ab_e220_51, ab_e220_54, ab_e220_55, ab_e220_56, ab_e220_57, ab_e220_58, ab_e220_61, ab_e220_62, ab_e220_65, ab_e220_66, ab_e220_67, ab_e220_68, ab_e220_71, ab_e220_72, ab_e220_73, ab_e220_76, ab_e220_77, ab_e220_80, ab_e220_81, ab_e220_82, ab_e220_83, ab_e220_84, ab_e220_87, ab_e220_88, ab_e220_89, ab_e220_92, ab_e220_93, ab_e220_96, ab_e220_99, ab_e220_100, ab_e220_101, ab_e220_102, ab_e220_105, ab_e220_106, ab_e220_109, ab_br_t, ab_br_f, ab_re_v (ab_zz _), ab_re_n (ab_zz _)]
  · rename_i hx
    have hx := Decidable.not_not.mp hx
    split at h
    · rename_i hq9
      cases h
      have hq8 : ¬ (0 ≤ p ∧ p < 2) := by omega
      simp (discharger := first | assumption | exact True.intro | exact not_false | (refine ab_gK ?_; with_unfolding_all rfl) | exact ab_rgI (by omega) (by omega) | omega) only [ab_a220, bb_y256, bb_y230 ab_sp0, bb_y248 ab_sp0, q2, if_pos hx, if_neg hq8, ab_e220_0, ab_e220_1, ab_e220_4, ab_e220_5, ab_e220_8, ab_e220_11, ab_e220_12, ab_e220_13, ab_e220_14, ab_e220_17, ab_e220_18, ab_e220_19, ab_e220_22, ab_e220_23, ab_e220_26, ab_e220_29, ab_e220_30, ab_e220_31, ab_e220_32, ab_e220_35, ab_e220_36, ab_e220_37, ab_e220_38, ab_e220_39, ab_e220_42, ab_e220_45, ab_e220_46, ab_e220_47, ab_e220_48, ab_e220_51, ab_e220_54, ab_e220_55, ab_e220_56, ab_e220_57, ab_e220_58, ab_e220_61, ab_e220_62, ab_e220_65, ab_e220_66, ab_e220_67, ab_e220_68, ab_e220_71, ab_e220_72, ab_e220_73, ab_e220_76, ab_e220_77, ab_e220_80, ab_e220_81, ab_e220_82, ab_e220_83, ab_e220_84, ab_e220_87, ab_e220_88, ab_e220_89, ab_e220_92, ab_e220_93, ab_e220_96, ab_e220_99, ab_e220_100, ab_e220_101, ab_e220_102, ab_e220_105, ab_e220_106, ab_e220_109, ab_br_t, ab_br_f, ab_re_v (ab_zz _), ab_re_n (ab_zz _)]
    · rename_i hq9
      have hq9 := Decidable.not_not.mp hq9
      split at h
      · rename_i x hh
        cases h
        have hq8 : 0 ≤ p ∧ p < 2 := ⟨hq9.1, by omega⟩
        simp (discharger := first | assumption | exact True.intro | exact not_false | (refine ab_gK ?_; with_unfolding_all rfl) | exact ab_rgI (by omega) (by omega) | omega) only [ab_a220, bb_y256, bb_y230 ab_sp0, bb_y248 ab_sp0, q2, if_pos hx, if_pos hq8, bb_y258s hw hk hb hr1 hh, ab_e220_0, ab_e220_1, ab_e220_4, ab_e220_5, ab_e220_8, ab_e220_11, ab_e220_12, ab_e220_13, ab_e220_14, ab_e220_17, ab_e220_18, ab_e220_19, ab_e220_22, ab_e220_23, ab_e220_26, ab_e220_29, ab_e220_30, ab_e220_31, ab_e220_32, ab_e220_35, ab_e220_36, ab_e220_37, ab_e220_38, ab_e220_39, ab_e220_42, ab_e220_45, ab_e220_46, ab_e220_47, ab_e220_48, ab_e220_51, ab_e220_54, ab_e220_55, ab_e220_56, ab_e220_57, ab_e220_58, ab_e220_61, ab_e220_62, ab_e220_65, ab_e220_66, ab_e220_67, ab_e220_68, ab_e220_71, ab_e220_72, ab_e220_73, ab_e220_76, ab_e220_77, ab_e220_80, ab_e220_81, ab_e220_82, ab_e220_83, ab_e220_84, ab_e220_87, ab_e220_88, ab_e220_89, ab_e220_92, ab_e220_93, ab_e220_96, ab_e220_99, ab_e220_100, ab_e220_101, ab_e220_102, ab_e220_105, ab_e220_106, ab_e220_109, ab_br_t, ab_br_f, ab_re_v (ab_zz _), ab_re_n (ab_zz _)]
      · rename_i _ hh
        have hm := bb_at_n hh
        have hb9 := bb_WS_W hw hm.1.1 hm.1.2
        have hn := bb_WB_n hb9
        have b0 := hm.1.1
        have b1 := hm.1.2
        have b6 : b < 6 := by omega
        have hbk := ab_bk_bI hsp b0 b6
        have eB := bb_bI_e 19 b
        have kk := kb b b0 b1
        have hIB := bb_KS_IB hw hk b0 b1
        have hI := bb_WS_IR hw b0 b1
        obtain ⟨⟨f0, f1, f2, f3, f4, f6⟩, f7, f5, -, -⟩ := id kk
        have fd := bb_nd_rg hb9 n.2.2.1.1
        have hps := ab_ps_pI hsp hq9.1 (by omega)
        have eP := bb_pI_e 19 p
        have hgt := hw.2.2.2.2.2.2.1 p hq9.1 (by omega)
        have kpp := (kp p hq9.1 (by omega)).1
        have hq8 : 0 ≤ p ∧ p < 2 := ⟨hq9.1, by omega⟩
        split at h
        · rename_i h1
          cases h
          simp (discharger := first | assumption | exact True.intro | exact not_false | (refine ab_gK ?_; with_unfolding_all rfl) | exact ab_rgI (by omega) (by omega) | omega) only [ab_a220, bb_y256, bb_y230 ab_sp0, bb_y248 ab_sp0, q2, if_pos hx, if_pos hq8, bb_y258n hw hk hb hh, kpp, ab_e220_0, ab_e220_1, ab_e220_4, ab_e220_5, ab_e220_8, ab_e220_11, ab_e220_12, ab_e220_13, ab_e220_14, ab_e220_17, ab_e220_18, ab_e220_19, ab_e220_22, ab_e220_23, ab_e220_26, ab_e220_29, ab_e220_30, ab_e220_31, ab_e220_32, ab_e220_35, ab_e220_36, ab_e220_37, ab_e220_38, ab_e220_39, ab_e220_42, ab_e220_45, ab_e220_46, ab_e220_47, ab_e220_48, ab_e220_51, ab_e220_54, ab_e220_55, ab_e220_56, ab_e220_57, ab_e220_58, ab_e220_61, ab_e220_62, ab_e220_65, ab_e220_66, ab_e220_67, ab_e220_68, ab_e220_71, ab_e220_72, ab_e220_73, ab_e220_76, ab_e220_77, ab_e220_80, ab_e220_81, ab_e220_82, ab_e220_83, ab_e220_84, ab_e220_87, ab_e220_88, ab_e220_89, ab_e220_92, ab_e220_93, ab_e220_96, ab_e220_99, ab_e220_100, ab_e220_101, ab_e220_102, ab_e220_105, ab_e220_106, ab_e220_109, ab_br_t, ab_br_f, ab_re_v (ab_zz _), ab_re_n (ab_zz _)]
        · cases h

theorem bb_cok220 {K : ab_Kt} {D : Nat → Int → Int} {L : Nat → Int → Int64} {z : ab_Z} {c : Int} {g : Int → Int} (hw : bb_WS c g) (hk : bb_KS D L 19 g) {b p : Int} (hb : ab_rg b) (hp : ab_rg p) {v : Int} {g' : Int → Int} (h : bb_sp_press g b p = .inr (v, g')) : ∃ D' L', ab_cal K 220 [.ref 18, .int (ab_I b), .int (ab_I p)] (ab_mk D L z) = some (.inl (some (.int (ab_I v))), ab_mk D' L' z) ∧ bb_KS D' L' 19 g' ∧ bb_FR D L D' L' := by
  have n := bb_WS_n hw
  have hsp := ab_sp0
  obtain ⟨⟨q2, q3, q4, q5, q6, q7, q8, q9⟩, kp, ka, kb, kn⟩ := id hk
  unfold bb_sp_press at h
  split at h
  · rename_i hx
    cases h
  · rename_i hx
    have hx := Decidable.not_not.mp hx
    split at h
    · rename_i hq9
      cases h
    · rename_i hq9
      have hq9 := Decidable.not_not.mp hq9
      split at h
      · rename_i x hh
        cases h
      · rename_i _ hh
        have hm := bb_at_n hh
        have hb9 := bb_WS_W hw hm.1.1 hm.1.2
        have hn := bb_WB_n hb9
        have b0 := hm.1.1
        have b1 := hm.1.2
        have b6 : b < 6 := by omega
        have hbk := ab_bk_bI hsp b0 b6
        have eB := bb_bI_e 19 b
        have kk := kb b b0 b1
        have hIB := bb_KS_IB hw hk b0 b1
        have hI := bb_WS_IR hw b0 b1
        obtain ⟨⟨f0, f1, f2, f3, f4, f6⟩, f7, f5, -, -⟩ := id kk
        have fd := bb_nd_rg hb9 n.2.2.1.1
        have hps := ab_ps_pI hsp hq9.1 (by omega)
        have eP := bb_pI_e 19 p
        have hgt := hw.2.2.2.2.2.2.1 p hq9.1 (by omega)
        have kpp := (kp p hq9.1 (by omega)).1
        have hq8 : 0 ≤ p ∧ p < 2 := ⟨hq9.1, by omega⟩
        split at h
        · cases h
        · rename_i h1
          obtain ⟨hv, hg⟩ := Prod.mk.inj (Sum.inr.inj h)
          obtain ⟨D', hD'⟩ : ∃ x, x = ab_u (ab_u (ab_u D (ab_pI 19 p + 1) (g (8 + 4 * p)) b) (ab_pI 19 p) 1 (g (8 + 4 * p) + 1)) (ab_bI 19 b) 2 2 := ⟨_, rfl⟩
          have n1 : ab_pI 19 p ≠ ab_pI 19 p + 1 := by omega
          have n2 : ab_bI 19 b ≠ ab_pI 19 p := by omega
          have n3 : ab_bI 19 b ≠ ab_pI 19 p + 1 := by omega
          have n4 : ab_pI 19 p ≠ ab_bI 19 b := by omega
          have n5 : ab_pI 19 p + 1 ≠ ab_bI 19 b := by omega
          have n6 : ab_pI 19 p + 1 ≠ ab_pI 19 p := by omega
          have hrow : ∀ i, i ≠ ab_pI 19 p + 1 → i ≠ ab_pI 19 p → i ≠ ab_bI 19 b → D' i = D i := fun i h1 h2 h3 => by rw [hD', ab_u_row h3, ab_u_row h2, ab_u_row h1]
          have cB : ∀ k, D' (ab_bI 19 b) k = if k = 2 then 2 else D (ab_bI 19 b) k := fun k => by rw [hD', ab_u_if, ab_u_row n2, ab_u_row n3]
          have d19 : D' 19 = D 19 := hrow 19 (by omega) (by omega) (by omega)
          have pH : ∀ k, D' (ab_pI 19 p) k = if k = 1 then g (8 + 4 * p) + 1 else D (ab_pI 19 p) k := fun k => by rw [hD', ab_u_row n4, ab_u_if, ab_u_row n1]
          have pS : ∀ k, D' (ab_pI 19 p + 1) k = if k = g (8 + 4 * p) then b else D (ab_pI 19 p + 1) k := fun k => by rw [hD', ab_u_row n5, ab_u_row n6, ab_u_if]
          obtain ⟨G, hG⟩ : ∃ x, x = bb_g1 (bb_g1 (bb_g1 g (8 + 4 * p + 1 + g (8 + 4 * p)) b) (8 + 4 * p) (g (8 + 4 * p) + 1)) (16 + 51 * b + 2) 2 := ⟨_, rfl⟩
          have lo : ∀ k, k < 16 → G k = if k = 8 + 4 * p then g (8 + 4 * p) + 1 else if k = 8 + 4 * p + 1 + g (8 + 4 * p) then b else g k := fun k hk => by
            rw [hG, bb_g1_ne (by omega)]
            rfl
          have hR : ∀ e w, 0 ≤ e → 0 ≤ w → w < 51 → bb_R G e w = if e = b ∧ w = 2 then 2 else bb_R g e w := fun e w e0 w0 w1 => by
            rw [hG, bb_R_g1 w0 w1 (by omega) (by omega), bb_R_lo e0 w0 (by omega), bb_R_lo e0 w0 (by omega)]
          have lz : ∀ k, k < 8 → G k = g k := fun k hk => by rw [lo k (by omega), if_neg (by omega), if_neg (by omega)]
          have hrun : ab_cal K 220 [.ref 18, .int (ab_I b), .int (ab_I p)] (ab_mk D L z) = some (.inl (some (.int (ab_I v))), ab_mk D' L z) := by
            rw [hD', ← hv]
            simp (discharger := first | assumption | exact True.intro | exact not_false | (refine ab_gK ?_; with_unfolding_all rfl) | exact ab_rgI (by omega) (by omega) | omega) only [ab_a220, bb_y256, bb_y230 ab_sp0, bb_y248 ab_sp0, q2, if_pos hx, if_pos hq8, bb_y258n hw hk hb hh, kpp, ab_u_row n1, ab_u_row n4, ab_u_eq, ab_e220_0, ab_e220_1, ab_e220_4, ab_e220_5, ab_e220_8, ab_e220_11, ab_e220_12, ab_e220_13, ab_e220_14, ab_e220_17, ab_e220_18, ab_e220_19, ab_e220_22, ab_e220_23, ab_e220_26, ab_e220_29, ab_e220_30, ab_e220_31, ab_e220_32, ab_e220_35, ab_e220_36, ab_e220_37, ab_e220_38, ab_e220_39, ab_e220_42, ab_e220_45, ab_e220_46, ab_e220_47, ab_e220_48, ab_e220_51, ab_e220_54, ab_e220_55, ab_e220_56, ab_e220_57, ab_e220_58, ab_e220_61, ab_e220_62, ab_e220_65, ab_e220_66, ab_e220_67, ab_e220_68, ab_e220_71, ab_e220_72, ab_e220_73, ab_e220_76, ab_e220_77, ab_e220_80, ab_e220_81, ab_e220_82, ab_e220_83, ab_e220_84, ab_e220_87, ab_e220_88, ab_e220_89, ab_e220_92, ab_e220_93, ab_e220_96, ab_e220_99, ab_e220_100, ab_e220_101, ab_e220_102, ab_e220_105, ab_e220_106, ab_e220_109, ab_br_t, ab_br_f, ab_re_v (ab_zz _), ab_re_n (ab_zz _)]
          refine ⟨D', L, hrun, ?_, fun i hi => ⟨hrow i (by omega) (by omega) (by omega), rfl⟩⟩
          rw [← hg, ← hG]
          refine bb_KS_bk hw hk b0 b1 (by rw [d19, lz 0 (by omega), lz 1 (by omega), lz 2 (by omega), lz 3 (by omega), lz 4 (by omega), lz 5 (by omega), lz 6 (by omega), lz 7 (by omega)]; exact hk.1) (fun q a d => ?_) (bb_AB_r (ka b b0 b6) (fun i a d => hrow i (by omega) (by omega) (by omega))) ?_ (fun i a d e => ⟨hrow i (by omega) (by omega) (by omega), rfl⟩) (fun e' a d he w w0 w1 => by rw [hR e' w a w0 w1, if_neg (fun x => he x.1)]) (lz 3 (by omega)) (lz 0 (by omega))
          · have eq := bb_pI_e 19 q
            have kq := kp q a d
            have gq := hw.2.2.2.2.2.2.1 q a d
            by_cases hqp : q = p
            · subst hqp
              rw [pH 1, if_pos rfl, lo _ (by omega), if_pos rfl]
              refine ⟨rfl, fun k k0 k1 => ?_⟩
              rw [lo _ (by omega), if_neg (c := 8 + 4 * q + 1 + k = 8 + 4 * q) (by omega), pS k]
              by_cases hkk : k = g (8 + 4 * q)
              · rw [if_pos hkk, if_pos (by omega)]
              · rw [if_neg hkk, if_neg (by omega)]
                exact kq.2 k k0 k1
            · rw [hrow _ (by omega) (by omega) (by omega), hrow _ (by omega) (by omega) (by omega), lo _ (by omega), if_neg (by omega), if_neg (by omega)]
              refine ⟨kq.1, fun k k0 k1 => ?_⟩
              rw [lo _ (by omega), if_neg (by omega), if_neg (by omega)]
              exact kq.2 k k0 k1
          · refine bb_KB_f hn.2.2.2.1.2 kk (fun i a d => ⟨hrow i (by omega) (by omega) (by omega), rfl⟩) ?_ ?_ ?_ ?_ (fun w w0 w1 a2 a4 a5 a6 => by rw [hR b w b0 w0 w1, if_neg (by omega)]) ?_ ?_ ?_ ?_
            · rw [cB, if_neg (by omega)]
            · rw [cB, if_neg (by omega)]
            · rw [cB, if_neg (by omega)]
            · rw [cB, if_neg (by omega)]
            · rw [cB, if_pos rfl, hR b 2 b0 (by omega) (by omega), if_pos ⟨rfl, rfl⟩]
            · rw [cB, if_neg (by omega), hR b 4 b0 (by omega) (by omega), if_neg (by omega)]; exact f4
            · rw [cB, if_neg (by omega), hR b 5 b0 (by omega) (by omega), if_neg (by omega)]; exact f6
            · rw [cB, if_neg (by omega), f7]
              have r5 : bb_R G b 5 = bb_R g b 5 := by rw [hR b 5 b0 (by omega) (by omega), if_neg (by omega)]
              have r6 : bb_R G b 6 = bb_R g b 6 := by rw [hR b 6 b0 (by omega) (by omega), if_neg (by omega)]
              unfold bb_nd
              rw [r5, r6, lz 0 (by omega)]

theorem bb_cno219 {K : ab_Kt} {D : Nat → Int → Int} {L : Nat → Int → Int64} {z : ab_Z} {c : Int} {g : Int → Int} (hw : bb_WS c g) (hk : bb_KS D L 19 g) {p : Int} (hp : ab_rg p) {r d : Int} (h : bb_sp_lift g p = .inl (r, d)) : ab_cal K 219 [.ref 18, .int (ab_I p)] (ab_mk D L z) = some (.inl (some (.int (ab_I (-1)))), ab_mk (bb_cref D r d) L z) := by
  have n := bb_WS_n hw
  have hsp := ab_sp0
  obtain ⟨⟨q2, q3, q4, q5, q6, q7, q8, q9⟩, kp, ka, kb, kn⟩ := id hk
  unfold bb_sp_lift at h
  split at h
  · rename_i hq9
    cases h
    have hq8 : ¬ (0 ≤ p ∧ p < 2) := by omega
    simp (discharger := first | assumption | exact True.intro | exact not_false | (refine ab_gK ?_; with_unfolding_all rfl) | exact ab_rgI (by omega) (by omega) | omega) only [ab_a219, bb_y256, bb_y248 ab_sp0, if_neg hq8, ab_e219_0, ab_e219_1, ab_e219_4, ab_e219_5, ab_e219_8, ab_e219_11, ab_e219_12, ab_e219_13, ab_e219_14, ab_e219_17, ab_e219_18, ab_e219_19, ab_e219_22, ab_e219_25, ab_e219_26, ab_e219_27, ab_e219_28, ab_e219_29, ab_e219_32, ab_e219_35, ab_e219_36, ab_e219_38, ab_e219_39, ab_e219_42, ab_e219_43, ab_e219_44, ab_e219_47, ab_e219_48, ab_e219_51, ab_e219_52, ab_e219_53, ab_e219_54, ab_e219_55, ab_e219_56, ab_e219_59, ab_e219_62, ab_e219_63, ab_e219_64, ab_e219_66, ab_e219_68, ab_e219_71, ab_e219_74, ab_e219_75, ab_e219_77, ab_e219_79, ab_e219_82, ab_e219_85, ab_e219_86, ab_e219_87, ab_e219_88, ab_e219_91, ab_e219_92, ab_e219_93, ab_e219_96, ab_e219_98, ab_e219_99, ab_e219_102, ab_e219_103, ab_br_t, ab_br_f, ab_re_v (ab_zz _), ab_re_n (ab_zz _)]
  · rename_i hq9
    have hq9 := Decidable.not_not.mp hq9
    have hps := ab_ps_pI hsp hq9.1 (by omega)
    have eP := bb_pI_e 19 p
    have hgt := hw.2.2.2.2.2.2.1 p hq9.1 (by omega)
    have kpp := (kp p hq9.1 (by omega)).1
    have hq8 : 0 ≤ p ∧ p < 2 := ⟨hq9.1, by omega⟩
    split at h
    · rename_i h1
      cases h
      simp (discharger := first | assumption | exact True.intro | exact not_false | (refine ab_gK ?_; with_unfolding_all rfl) | exact ab_rgI (by omega) (by omega) | omega) only [ab_a219, bb_y256, bb_y248 ab_sp0, if_pos hq8, kpp, ab_e219_0, ab_e219_1, ab_e219_4, ab_e219_5, ab_e219_8, ab_e219_11, ab_e219_12, ab_e219_13, ab_e219_14, ab_e219_17, ab_e219_18, ab_e219_19, ab_e219_22, ab_e219_25, ab_e219_26, ab_e219_27, ab_e219_28, ab_e219_29, ab_e219_32, ab_e219_35, ab_e219_36, ab_e219_38, ab_e219_39, ab_e219_42, ab_e219_43, ab_e219_44, ab_e219_47, ab_e219_48, ab_e219_51, ab_e219_52, ab_e219_53, ab_e219_54, ab_e219_55, ab_e219_56, ab_e219_59, ab_e219_62, ab_e219_63, ab_e219_64, ab_e219_66, ab_e219_68, ab_e219_71, ab_e219_74, ab_e219_75, ab_e219_77, ab_e219_79, ab_e219_82, ab_e219_85, ab_e219_86, ab_e219_87, ab_e219_88, ab_e219_91, ab_e219_92, ab_e219_93, ab_e219_96, ab_e219_98, ab_e219_99, ab_e219_102, ab_e219_103, ab_br_t, ab_br_f, ab_re_v (ab_zz _), ab_re_n (ab_zz _)]
    · rename_i h1
      have ht := hw.2.2.2.2.2.2.2.1 p (g (8 + 4 * p) - 1) hq9.1 (by omega) (by omega) (by omega)
      have htd : g (8 + 4 * p + 1 + (g (8 + 4 * p) - 1)) = bb_top g p := rfl
      have kst : D (ab_pI 19 p + 1) (g (8 + 4 * p) - 1) = bb_top g p := (kp p hq9.1 (by omega)).2 _ (by omega) (by omega)
      rw [htd] at ht
      have hndd : ab_rneed g (bb_top g p) = bb_nd g (bb_top g p) (g 0) := rfl
      generalize bb_top g p = b at ht kst hndd h
      have hm := ht
      have hb9 := bb_WS_W hw hm.1.1 hm.1.2
      have hn := bb_WB_n hb9
      have b0 := hm.1.1
      have b1 := hm.1.2
      have b6 : b < 6 := by omega
      have hbk := ab_bk_bI hsp b0 b6
      have eB := bb_bI_e 19 b
      have kk := kb b b0 b1
      have hIB := bb_KS_IB hw hk b0 b1
      have hI := bb_WS_IR hw b0 b1
      obtain ⟨⟨f0, f1, f2, f3, f4, f6⟩, f7, f5, -, -⟩ := id kk
      have fd := bb_nd_rg hb9 n.2.2.1.1
      split at h
      · rename_i h2
        cases h
        simp (discharger := first | assumption | exact True.intro | exact not_false | (refine ab_gK ?_; with_unfolding_all rfl) | exact ab_rgI (by omega) (by omega) | omega) only [ab_a219, bb_y256, bb_y248 ab_sp0, if_pos hq8, kpp, kst, f7, hndd, ab_e219_0, ab_e219_1, ab_e219_4, ab_e219_5, ab_e219_8, ab_e219_11, ab_e219_12, ab_e219_13, ab_e219_14, ab_e219_17, ab_e219_18, ab_e219_19, ab_e219_22, ab_e219_25, ab_e219_26, ab_e219_27, ab_e219_28, ab_e219_29, ab_e219_32, ab_e219_35, ab_e219_36, ab_e219_38, ab_e219_39, ab_e219_42, ab_e219_43, ab_e219_44, ab_e219_47, ab_e219_48, ab_e219_51, ab_e219_52, ab_e219_53, ab_e219_54, ab_e219_55, ab_e219_56, ab_e219_59, ab_e219_62, ab_e219_63, ab_e219_64, ab_e219_66, ab_e219_68, ab_e219_71, ab_e219_74, ab_e219_75, ab_e219_77, ab_e219_79, ab_e219_82, ab_e219_85, ab_e219_86, ab_e219_87, ab_e219_88, ab_e219_91, ab_e219_92, ab_e219_93, ab_e219_96, ab_e219_98, ab_e219_99, ab_e219_102, ab_e219_103, ab_br_t, ab_br_f, ab_re_v (ab_zz _), ab_re_n (ab_zz _)]
      · cases h

theorem bb_cok219 {K : ab_Kt} {D : Nat → Int → Int} {L : Nat → Int → Int64} {z : ab_Z} {c : Int} {g : Int → Int} (hw : bb_WS c g) (hk : bb_KS D L 19 g) {p : Int} (hp : ab_rg p) {v : Int} {g' : Int → Int} (h : bb_sp_lift g p = .inr (v, g')) : ∃ D' L', ab_cal K 219 [.ref 18, .int (ab_I p)] (ab_mk D L z) = some (.inl (some (.int (ab_I v))), ab_mk D' L' z) ∧ bb_KS D' L' 19 g' ∧ bb_FR D L D' L' := by
  have n := bb_WS_n hw
  have hsp := ab_sp0
  obtain ⟨⟨q2, q3, q4, q5, q6, q7, q8, q9⟩, kp, ka, kb, kn⟩ := id hk
  unfold bb_sp_lift at h
  split at h
  · cases h
  · rename_i hq9
    have hq9 := Decidable.not_not.mp hq9
    have hps := ab_ps_pI hsp hq9.1 (by omega)
    have eP := bb_pI_e 19 p
    have hgt := hw.2.2.2.2.2.2.1 p hq9.1 (by omega)
    have kpp := (kp p hq9.1 (by omega)).1
    have hq8 : 0 ≤ p ∧ p < 2 := ⟨hq9.1, by omega⟩
    split at h
    · cases h
    · rename_i h1
      have ht := hw.2.2.2.2.2.2.2.1 p (g (8 + 4 * p) - 1) hq9.1 (by omega) (by omega) (by omega)
      have htd : g (8 + 4 * p + 1 + (g (8 + 4 * p) - 1)) = bb_top g p := rfl
      have kst : D (ab_pI 19 p + 1) (g (8 + 4 * p) - 1) = bb_top g p := (kp p hq9.1 (by omega)).2 _ (by omega) (by omega)
      rw [htd] at ht
      have hndd : ab_rneed g (bb_top g p) = bb_nd g (bb_top g p) (g 0) := rfl
      generalize bb_top g p = b at ht kst hndd h
      have hm := ht
      have hb9 := bb_WS_W hw hm.1.1 hm.1.2
      have hn := bb_WB_n hb9
      have b0 := hm.1.1
      have b1 := hm.1.2
      have b6 : b < 6 := by omega
      have hbk := ab_bk_bI hsp b0 b6
      have eB := bb_bI_e 19 b
      have kk := kb b b0 b1
      have hIB := bb_KS_IB hw hk b0 b1
      have hI := bb_WS_IR hw b0 b1
      obtain ⟨⟨f0, f1, f2, f3, f4, f6⟩, f7, f5, -, -⟩ := id kk
      have fd := bb_nd_rg hb9 n.2.2.1.1
      split at h
      · cases h
      · rename_i h2
        obtain ⟨hv, hg⟩ := Prod.mk.inj (Sum.inr.inj h)
        obtain ⟨D', hD'⟩ : ∃ x, x = ab_u (ab_u D (ab_pI 19 p) 1 (g (8 + 4 * p) - 1)) (ab_bI 19 b) 2 3 := ⟨_, rfl⟩
        have n2 : ab_bI 19 b ≠ ab_pI 19 p := by omega
        have n4 : ab_pI 19 p ≠ ab_bI 19 b := by omega
        have hrow : ∀ i, i ≠ ab_pI 19 p → i ≠ ab_bI 19 b → D' i = D i := fun i h1 h2 => by rw [hD', ab_u_row h2, ab_u_row h1]
        have cB : ∀ k, D' (ab_bI 19 b) k = if k = 2 then 3 else D (ab_bI 19 b) k := fun k => by rw [hD', ab_u_if, ab_u_row n2]
        have d19 : D' 19 = D 19 := hrow 19 (by omega) (by omega)
        have pH : ∀ k, D' (ab_pI 19 p) k = if k = 1 then g (8 + 4 * p) - 1 else D (ab_pI 19 p) k := fun k => by rw [hD', ab_u_row n4, ab_u_if]
        obtain ⟨G, hG⟩ : ∃ x, x = bb_g1 (bb_g1 g (8 + 4 * p) (g (8 + 4 * p) - 1)) (16 + 51 * b + 2) 3 := ⟨_, rfl⟩
        have lo : ∀ k, k < 16 → G k = if k = 8 + 4 * p then g (8 + 4 * p) - 1 else g k := fun k hk => by
          rw [hG, bb_g1_ne (by omega)]
          rfl
        have hR : ∀ e w, 0 ≤ e → 0 ≤ w → w < 51 → bb_R G e w = if e = b ∧ w = 2 then 3 else bb_R g e w := fun e w e0 w0 w1 => by
          rw [hG, bb_R_g1 w0 w1 (by omega) (by omega), bb_R_lo e0 w0 (by omega)]
        have lz : ∀ k, k < 8 → G k = g k := fun k hk => by rw [lo k (by omega), if_neg (by omega)]
        have hrun : ab_cal K 219 [.ref 18, .int (ab_I p)] (ab_mk D L z) = some (.inl (some (.int (ab_I v))), ab_mk D' L z) := by
          rw [hD', ← hv]
          simp (discharger := first | assumption | exact True.intro | exact not_false | (refine ab_gK ?_; with_unfolding_all rfl) | exact ab_rgI (by omega) (by omega) | omega) only [ab_a219, bb_y256, bb_y248 ab_sp0, if_pos hq8, kpp, kst, f7, hndd, ab_e219_0, ab_e219_1, ab_e219_4, ab_e219_5, ab_e219_8, ab_e219_11, ab_e219_12, ab_e219_13, ab_e219_14, ab_e219_17, ab_e219_18, ab_e219_19, ab_e219_22, ab_e219_25, ab_e219_26, ab_e219_27, ab_e219_28, ab_e219_29, ab_e219_32, ab_e219_35, ab_e219_36, ab_e219_38, ab_e219_39, ab_e219_42, ab_e219_43, ab_e219_44, ab_e219_47, ab_e219_48, ab_e219_51, ab_e219_52, ab_e219_53, ab_e219_54, ab_e219_55, ab_e219_56, ab_e219_59, ab_e219_62, ab_e219_63, ab_e219_64, ab_e219_66, ab_e219_68, ab_e219_71, ab_e219_74, ab_e219_75, ab_e219_77, ab_e219_79, ab_e219_82, ab_e219_85, ab_e219_86, ab_e219_87, ab_e219_88, ab_e219_91, ab_e219_92, ab_e219_93, ab_e219_96, ab_e219_98, ab_e219_99, ab_e219_102, ab_e219_103, ab_br_t, ab_br_f, ab_re_v (ab_zz _), ab_re_n (ab_zz _)]
        refine ⟨D', L, hrun, ?_, fun i hi => ⟨hrow i (by omega) (by omega), rfl⟩⟩
        rw [← hg, ← hG]
        refine bb_KS_bk hw hk b0 b1 (by rw [d19, lz 0 (by omega), lz 1 (by omega), lz 2 (by omega), lz 3 (by omega), lz 4 (by omega), lz 5 (by omega), lz 6 (by omega), lz 7 (by omega)]; exact hk.1) (fun q a d => ?_) (bb_AB_r (ka b b0 b6) (fun i a d => hrow i (by omega) (by omega))) ?_ (fun i a d e => ⟨hrow i (by omega) (by omega), rfl⟩) (fun e' a d he w w0 w1 => by rw [hR e' w a w0 w1, if_neg (fun x => he x.1)]) (lz 3 (by omega)) (lz 0 (by omega))
        · have eq := bb_pI_e 19 q
          have kq := kp q a d
          have gq := hw.2.2.2.2.2.2.1 q a d
          by_cases hqp : q = p
          · subst hqp
            rw [pH 1, if_pos rfl, lo _ (by omega), if_pos rfl]
            refine ⟨rfl, fun k k0 k1 => ?_⟩
            rw [hrow _ (by omega) (by omega), lo _ (by omega), if_neg (by omega)]
            exact kq.2 k k0 k1
          · rw [hrow _ (by omega) (by omega), hrow _ (by omega) (by omega), lo _ (by omega), if_neg (by omega)]
            refine ⟨kq.1, fun k k0 k1 => ?_⟩
            rw [lo _ (by omega), if_neg (by omega)]
            exact kq.2 k k0 k1
        · refine bb_KB_f hn.2.2.2.1.2 kk (fun i a d => ⟨hrow i (by omega) (by omega), rfl⟩) ?_ ?_ ?_ ?_ (fun w w0 w1 a2 a4 a5 a6 => by rw [hR b w b0 w0 w1, if_neg (by omega)]) ?_ ?_ ?_ ?_
          · rw [cB, if_neg (by omega)]
          · rw [cB, if_neg (by omega)]
          · rw [cB, if_neg (by omega)]
          · rw [cB, if_neg (by omega)]
          · rw [cB, if_pos rfl, hR b 2 b0 (by omega) (by omega), if_pos ⟨rfl, rfl⟩]
          · rw [cB, if_neg (by omega), hR b 4 b0 (by omega) (by omega), if_neg (by omega)]; exact f4
          · rw [cB, if_neg (by omega), hR b 5 b0 (by omega) (by omega), if_neg (by omega)]; exact f6
          · rw [cB, if_neg (by omega), f7]
            have r5 : bb_R G b 5 = bb_R g b 5 := by rw [hR b 5 b0 (by omega) (by omega), if_neg (by omega)]
            have r6 : bb_R G b 6 = bb_R g b 6 := by rw [hR b 6 b0 (by omega) (by omega), if_neg (by omega)]
            unfold bb_nd
            rw [r5, r6, lz 0 (by omega)]

