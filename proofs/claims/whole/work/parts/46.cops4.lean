/-! ===== the bench's changes are these: books, slips, minutes ===== -/
theorem bb_S_zero {f : Int → Int} {n : Int} (hn : 0 ≤ n) (h : ∀ i, 0 ≤ i → i < n → f i = 0) : ab_S f n = 0 := by
  have a := ab_Sle (f := f) (n := n) 0 hn (fun i x y => by rw [h i x y]; omega)
  have c := ab_Sge (f := f) (n := n) 0 hn (fun i x y => by rw [h i x y]; omega)
  omega
theorem bb_cno228 {K : ab_Kt} {D : Nat → Int → Int} {L : Nat → Int → Int64} {z : ab_Z} {c : Int} {g : Int → Int} (hw : bb_WS c g) (hk : bb_KS D L 19 g) {p q : Int} (hp : ab_rg p) (hq : ab_rg q) {r d : Int} (h : bb_sp_book g p q = .inl (r, d)) : ab_cal K 228 [.ref 18, .int (ab_I p), .int (ab_I q)] (ab_mk D L z) = some (.inl (some (.int (ab_I (-1)))), ab_mk (bb_cref D r d) L z) := by
  have n := bb_WS_n hw
  have hsp := ab_sp0
  obtain ⟨⟨q2, q3, q4, q5, q6, q7, q8, q9⟩, kp, ka, kb, kn⟩ := id hk
  unfold bb_sp_book at h
  split at h
  · rename_i h1
    cases h
    by_cases h2 : 4 ≤ p ∧ p ≤ 96
    · have h3 : ¬ (2 ≤ q ∧ q ≤ 5) := fun x => h1 ⟨h2.1, h2.2, x.1, x.2⟩
      simp (discharger := first | assumption | exact True.intro | exact not_false | (refine ab_gK ?_; with_unfolding_all rfl) | exact ab_rgI (by omega) (by omega) | omega) only [ab_a228, bb_y255, bb_y256, q2, if_pos h2, if_neg h3, ab_e228_0, ab_e228_1, ab_e228_2, ab_e228_4, ab_e228_7, ab_e228_10, ab_e228_11, ab_e228_12, ab_e228_13, ab_e228_16, ab_e228_19, ab_e228_20, ab_e228_23, ab_e228_24, ab_e228_25, ab_e228_26, ab_e228_29, ab_e228_30, ab_e228_31, ab_e228_32, ab_e228_35, ab_e228_36, ab_e228_37, ab_e228_40, ab_e228_43, ab_e228_45, ab_e228_48, ab_e228_49, ab_e228_50, ab_e228_52, ab_e228_55, ab_e228_56, ab_e228_57, ab_e228_60, ab_e228_63, ab_e228_65, ab_e228_66, ab_e228_69, ab_e228_72, ab_e228_74, ab_e228_75, ab_e228_76, ab_e228_77, ab_e228_80, ab_e228_81, ab_e228_84, ab_e228_85, ab_e228_88, ab_e228_89, ab_e228_90, ab_e228_93, ab_e228_95, ab_br_t, ab_br_f, ab_re_v (ab_zz _), ab_re_n (ab_zz _)]
    · skip
      simp (discharger := first | assumption | exact True.intro | exact not_false | (refine ab_gK ?_; with_unfolding_all rfl) | exact ab_rgI (by omega) (by omega) | omega) only [ab_a228, bb_y255, bb_y256, q2, if_neg h2, ab_e228_0, ab_e228_1, ab_e228_2, ab_e228_4, ab_e228_7, ab_e228_10, ab_e228_11, ab_e228_12, ab_e228_13, ab_e228_16, ab_e228_19, ab_e228_20, ab_e228_23, ab_e228_24, ab_e228_25, ab_e228_26, ab_e228_29, ab_e228_30, ab_e228_31, ab_e228_32, ab_e228_35, ab_e228_36, ab_e228_37, ab_e228_40, ab_e228_43, ab_e228_45, ab_e228_48, ab_e228_49, ab_e228_50, ab_e228_52, ab_e228_55, ab_e228_56, ab_e228_57, ab_e228_60, ab_e228_63, ab_e228_65, ab_e228_66, ab_e228_69, ab_e228_72, ab_e228_74, ab_e228_75, ab_e228_76, ab_e228_77, ab_e228_80, ab_e228_81, ab_e228_84, ab_e228_85, ab_e228_88, ab_e228_89, ab_e228_90, ab_e228_93, ab_e228_95, ab_br_t, ab_br_f, ab_re_v (ab_zz _), ab_re_n (ab_zz _)]
  · rename_i h1
    have h1 := Decidable.not_not.mp h1
    have h2 : 4 ≤ p ∧ p ≤ 96 := ⟨h1.1, h1.2.1⟩
    have h3 : 2 ≤ q ∧ q ≤ 5 := h1.2.2
    split at h
    · cases h
      simp (discharger := first | assumption | exact True.intro | exact not_false | (refine ab_gK ?_; with_unfolding_all rfl) | exact ab_rgI (by omega) (by omega) | omega) only [ab_a228, bb_y255, bb_y256, q2, if_pos h2, if_pos h3, ab_e228_0, ab_e228_1, ab_e228_2, ab_e228_4, ab_e228_7, ab_e228_10, ab_e228_11, ab_e228_12, ab_e228_13, ab_e228_16, ab_e228_19, ab_e228_20, ab_e228_23, ab_e228_24, ab_e228_25, ab_e228_26, ab_e228_29, ab_e228_30, ab_e228_31, ab_e228_32, ab_e228_35, ab_e228_36, ab_e228_37, ab_e228_40, ab_e228_43, ab_e228_45, ab_e228_48, ab_e228_49, ab_e228_50, ab_e228_52, ab_e228_55, ab_e228_56, ab_e228_57, ab_e228_60, ab_e228_63, ab_e228_65, ab_e228_66, ab_e228_69, ab_e228_72, ab_e228_74, ab_e228_75, ab_e228_76, ab_e228_77, ab_e228_80, ab_e228_81, ab_e228_84, ab_e228_85, ab_e228_88, ab_e228_89, ab_e228_90, ab_e228_93, ab_e228_95, ab_br_t, ab_br_f, ab_re_v (ab_zz _), ab_re_n (ab_zz _)]
    · cases h

theorem bb_cok228 {K : ab_Kt} {D : Nat → Int → Int} {L : Nat → Int → Int64} {z : ab_Z} {c : Int} {g : Int → Int} (hw : bb_WS c g) (hk : bb_KS D L 19 g) {p q : Int} (hp : ab_rg p) (hq : ab_rg q) {v : Int} {g' : Int → Int} (h : bb_sp_book g p q = .inr (v, g')) : ∃ D' L', ab_cal K 228 [.ref 18, .int (ab_I p), .int (ab_I q)] (ab_mk D L z) = some (.inl (some (.int (ab_I v))), ab_mk D' L' z) ∧ bb_KS D' L' 19 g' ∧ bb_FR D L D' L' := by
  have n := bb_WS_n hw
  have hsp := ab_sp0
  obtain ⟨⟨q2, q3, q4, q5, q6, q7, q8, q9⟩, kp, ka, kb, kn⟩ := id hk
  unfold bb_sp_book at h
  split at h
  · cases h
  · rename_i h1
    have h1 := Decidable.not_not.mp h1
    have h2 : 4 ≤ p ∧ p ≤ 96 := ⟨h1.1, h1.2.1⟩
    have h3 : 2 ≤ q ∧ q ≤ 5 := h1.2.2
    split at h
    · cases h
    · rename_i h4
      obtain ⟨hv, hg⟩ := Prod.mk.inj (Sum.inr.inj h)
      have g0 : 0 ≤ g 3 := n.1.1
      have g6 : g 3 < 6 := by omega
      have hbk := ab_bk_bI hsp g0 g6
      have eB := bb_bI_e 19 (g 3)
      have nsB : 19 ≠ ab_bI 19 (g 3) := by omega
      have nBs : ab_bI 19 (g 3) ≠ 19 := by omega
      obtain ⟨D', hD'⟩ : ∃ x, x = ab_u (ab_u (ab_u D (ab_bI 19 (g 3)) 0 p) (ab_bI 19 (g 3)) 1 q) 19 2 (g 3 + 1) := ⟨_, rfl⟩
      have hrow : ∀ i, i ≠ 19 → i ≠ ab_bI 19 (g 3) → D' i = D i := fun i h1 h2 => by rw [hD', ab_u_row h1, ab_u_row h2, ab_u_row h2]
      have cs : ∀ k, D' 19 k = if k = 2 then g 3 + 1 else D 19 k := fun k => by rw [hD', ab_u_if, ab_u_row nsB, ab_u_row nsB]
      have cB : ∀ k, D' (ab_bI 19 (g 3)) k = if k = 1 then q else if k = 0 then p else D (ab_bI 19 (g 3)) k := fun k => by rw [hD', ab_u_row nBs, ab_u_if, ab_u_if]
      have lo : ∀ k, k < 16 → k ≠ 3 → bb_gb g p q k = g k := fun k a d => bb_gb_lo g0 a d
      have e3 : bb_gb g p q 3 = g 3 + 1 := if_pos rfl
      have hN : ∀ w, 0 ≤ w → w < 51 → bb_R (bb_gb g p q) (g 3) w = if w = 0 then p else if w = 1 then q else if w = 5 then -1 else 0 := fun w a d => bb_gb_N g0 a d
      have hrun : ab_cal K 228 [.ref 18, .int (ab_I p), .int (ab_I q)] (ab_mk D L z) = some (.inl (some (.int (ab_I v))), ab_mk D' L z) := by
        rw [hD', ← hv]
        simp (discharger := first | assumption | exact True.intro | exact not_false | (refine ab_gK ?_; with_unfolding_all rfl) | exact ab_rgI (by omega) (by omega) | omega) only [ab_a228, bb_y255, bb_y256, q2, if_pos h2, if_pos h3, bb_y263 hbk, ab_u_row nsB, ab_e228_0, ab_e228_1, ab_e228_2, ab_e228_4, ab_e228_7, ab_e228_10, ab_e228_11, ab_e228_12, ab_e228_13, ab_e228_16, ab_e228_19, ab_e228_20, ab_e228_23, ab_e228_24, ab_e228_25, ab_e228_26, ab_e228_29, ab_e228_30, ab_e228_31, ab_e228_32, ab_e228_35, ab_e228_36, ab_e228_37, ab_e228_40, ab_e228_43, ab_e228_45, ab_e228_48, ab_e228_49, ab_e228_50, ab_e228_52, ab_e228_55, ab_e228_56, ab_e228_57, ab_e228_60, ab_e228_63, ab_e228_65, ab_e228_66, ab_e228_69, ab_e228_72, ab_e228_74, ab_e228_75, ab_e228_76, ab_e228_77, ab_e228_80, ab_e228_81, ab_e228_84, ab_e228_85, ab_e228_88, ab_e228_89, ab_e228_90, ab_e228_93, ab_e228_95, ab_br_t, ab_br_f, ab_re_v (ab_zz _), ab_re_n (ab_zz _)]
      refine ⟨D', L, hrun, ?_, fun i hi => ⟨hrow i (by omega) (by omega), rfl⟩⟩
      rw [← hg]
      have knb := kn (g 3) (Int.le_refl _) g6
      obtain ⟨⟨b2, b3, b4, b5, b6, b7⟩, bl0, bl1, bl2⟩ := knb
      refine ⟨⟨?_, ?_, ?_, ?_, ?_, ?_, ?_, ?_⟩, fun r r0 r1 => ?_, fun e a d => ?_, fun e a d => ?_, fun e a d => ?_⟩
      · rw [cs, if_pos rfl, e3]
      · rw [cs, if_neg (by omega), lo 0 (by omega) (by omega), q3]
      · rw [cs, if_neg (by omega), lo 1 (by omega) (by omega), q4]
      · rw [cs, if_neg (by omega), lo 2 (by omega) (by omega), q5]
      · rw [cs, if_neg (by omega), lo 4 (by omega) (by omega), q6]
      · rw [cs, if_neg (by omega), lo 5 (by omega) (by omega), q7]
      · rw [cs, if_neg (by omega), lo 6 (by omega) (by omega), q8]
      · rw [cs, if_neg (by omega), lo 7 (by omega) (by omega), q9]
      · have eq := bb_pI_e 19 r
        rw [hrow _ (by omega) (by omega), hrow _ (by omega) (by omega), lo _ (by omega) (by omega)]
        refine ⟨(kp r r0 r1).1, fun k k0 k1 => ?_⟩
        rw [lo _ (by omega) (by omega)]
        exact (kp r r0 r1).2 k k0 k1
      · have e9 := bb_bI_e 19 e
        exact bb_AB_r (ka e a d) (fun i x y => hrow i (by omega) (by omega))
      · rw [lo 0 (by omega) (by omega)]
        by_cases he : e = g 3
        · subst he
          have hsl : ∀ r, 0 ≤ r → r < 192 → bb_sl (bb_gb g p q) (g 3) r = 0 := fun r r0 r1 => by
            unfold bb_sl
            rw [hN _ (by omega) (by omega), if_neg (by omega), if_neg (by omega), if_neg (by omega), bb_ib0]
          refine ⟨⟨?_, ?_, ?_, ?_, ?_, ?_⟩, ?_, ?_, fun s x y => ?_, fun r r0 r1 => ?_⟩
          · rw [cB, if_neg (by omega), if_pos rfl, hN 0 (by omega) (by omega), if_pos rfl]
          · rw [cB, if_pos rfl, hN 1 (by omega) (by omega), if_neg (by omega), if_pos rfl]
          · rw [cB, if_neg (by omega), if_neg (by omega), hN 2 (by omega) (by omega), if_neg (by omega), if_neg (by omega), if_neg (by omega), b2]
          · rw [cB, if_neg (by omega), if_neg (by omega), hN 3 (by omega) (by omega), if_neg (by omega), if_neg (by omega), if_neg (by omega), b3]
          · rw [cB, if_neg (by omega), if_neg (by omega), hN 4 (by omega) (by omega), if_neg (by omega), if_neg (by omega), if_neg (by omega), b4]
          · rw [cB, if_neg (by omega), if_neg (by omega), hN 5 (by omega) (by omega), if_neg (by omega), if_neg (by omega), if_pos rfl, b6]
          · rw [cB, if_neg (by omega), if_neg (by omega), b7]
            unfold bb_nd
            rw [hN 5 (by omega) (by omega), if_neg (c := (5 : Int) = 0) (by omega), if_neg (c := (5 : Int) = 1) (by omega), if_pos (c := (5 : Int) = 5) rfl, if_pos (by omega)]
          · rw [cB, if_neg (by omega), if_neg (by omega), b5, bb_S_zero (by omega) hsl]
          · rw [hN 3 (by omega) (by omega), if_neg (by omega), if_neg (by omega), if_neg (by omega)] at y
            omega
          · rw [hsl r r0 r1]
            have hr : r / 64 = 0 ∨ r / 64 = 1 ∨ r / 64 = 2 := by omega
            rcases hr with hr | hr | hr <;> rw [hr]
            · rw [bl0, bb_lb0]
            · rw [bl1, bb_lb0]
            · rw [bl2, bb_lb0]
        · rw [e3] at d
          have e9 := bb_bI_e 19 e
          exact bb_KB_congr (fun i x y => ⟨hrow i (by omega) (by omega), rfl⟩) (fun w x y => (bb_gb_R g0 a (by omega) x y).symm) (bb_WB_n (bb_WS_W hw a (by omega))).2.2.2.1.2 (kb e a (by omega))
      · rw [e3] at a
        have e9 := bb_bI_e 19 e
        exact bb_NB_fr (fun i x y => ⟨hrow i (by omega) (by omega), rfl⟩) (kn e (by omega) d)

theorem bb_cno218 {K : ab_Kt} {D : Nat → Int → Int} {L : Nat → Int → Int64} {z : ab_Z} {c : Int} {g : Int → Int} (hw : bb_WS c g) (hk : bb_KS D L 19 g) {b p : Int} (hb : ab_rg b) (hp : ab_rg p) {r d : Int} (h : bb_sp_slip g b p = .inl (r, d)) : ab_cal K 218 [.ref 18, .int (ab_I b), .int (ab_I p)] (ab_mk D L z) = some (.inl (some (.int (ab_I (-1)))), ab_mk (bb_cref D r d) L z) := by
  have n := bb_WS_n hw
  have hsp := ab_sp0
  obtain ⟨⟨q2, q3, q4, q5, q6, q7, q8, q9⟩, kp, ka, kb, kn⟩ := id hk
  have hr3 : ab_rg 3 := ab_rgI (by omega) (by omega)
  unfold bb_sp_slip at h
  split at h
  · rename_i x hh
    cases h
    simp (discharger := first | assumption | exact True.intro | exact not_false | (refine ab_gK ?_; with_unfolding_all rfl) | exact ab_rgI (by omega) (by omega) | omega) only [ab_a218, bb_y258s hw hk hb hr3 hh, ab_e218_0, ab_e218_1, ab_e218_2, ab_e218_3, ab_e218_6, ab_e218_9, ab_e218_10, ab_e218_11, ab_e218_12, ab_e218_15, ab_e218_18, ab_e218_19, ab_e218_20, ab_e218_21, ab_e218_22, ab_e218_23, ab_e218_26, ab_e218_29, ab_e218_30, ab_e218_32, ab_e218_33, ab_e218_36, ab_e218_37, ab_e218_38, ab_e218_39, ab_e218_42, ab_e218_45, ab_e218_46, ab_e218_48, ab_e218_49, ab_e218_52, ab_e218_53, ab_e218_54, ab_e218_55, ab_e218_58, ab_e218_59, ab_e218_62, ab_e218_63, ab_e218_66, ab_e218_67, ab_e218_68, ab_e218_71, ab_e218_72, ab_e218_75, ab_br_t, ab_br_f, ab_re_v (ab_zz _), ab_re_n (ab_zz _)]
  · rename_i hh
    have hm := bb_at_n hh
    have hb9 := bb_WS_W hw hm.1.1 hm.1.2
    have hn := bb_WB_n hb9
    have b0 := hm.1.1
    have b1 := hm.1.2
    have b6 : b < 6 := by omega
    have hbk := ab_bk_bI hsp b0 b6
    have eB := bb_bI_e 19 b
    have kk := kb b b0 b1
    have hIB := bb_KS_IB hw hk b0 b1
    have hI := bb_WS_IR hw b0 b1
    obtain ⟨⟨f0, f1, f2, f3, f4, f6⟩, f7, f5, -, -⟩ := id kk
    have fd := bb_nd_rg hb9 n.2.2.1.1
    have hal := ab_rall_rg hI
    have hwr := ab_rwr_rg g b p
    have hsl := bb_sl_rg g b p
    have val := bb_v_all kk
    have vwr := bb_v_wr kk hb9 p
    have hr1 : ab_rg 3 := ab_rgI (by omega) (by omega)
    split at h
    · rename_i h1
      cases h
      have h2 : ¬ (0 ≤ p ∧ p < ab_rall g b ∧ ab_rwr g b p = 1) := fun x => h1 ⟨⟨x.1, x.2.1⟩, x.2.2⟩
      simp (discharger := first | assumption | exact True.intro | exact not_false | (refine ab_gK ?_; with_unfolding_all rfl) | exact ab_rgI (by omega) (by omega) | omega) only [ab_a218, bb_y256, ab_y259 hbk hIB hp, val, vwr, bb_y258n hw hk hb hh, if_neg h2, ab_e218_0, ab_e218_1, ab_e218_2, ab_e218_3, ab_e218_6, ab_e218_9, ab_e218_10, ab_e218_11, ab_e218_12, ab_e218_15, ab_e218_18, ab_e218_19, ab_e218_20, ab_e218_21, ab_e218_22, ab_e218_23, ab_e218_26, ab_e218_29, ab_e218_30, ab_e218_32, ab_e218_33, ab_e218_36, ab_e218_37, ab_e218_38, ab_e218_39, ab_e218_42, ab_e218_45, ab_e218_46, ab_e218_48, ab_e218_49, ab_e218_52, ab_e218_53, ab_e218_54, ab_e218_55, ab_e218_58, ab_e218_59, ab_e218_62, ab_e218_63, ab_e218_66, ab_e218_67, ab_e218_68, ab_e218_71, ab_e218_72, ab_e218_75, ab_br_t, ab_br_f, ab_re_v (ab_zz _), ab_re_n (ab_zz _)]
    · rename_i h1
      have h1 := Decidable.not_not.mp h1
      have h2 : 0 ≤ p ∧ p < ab_rall g b ∧ ab_rwr g b p = 1 := ⟨h1.1.1, h1.1.2, h1.2⟩
      have p192 : p < 192 := by omega
      have vcs := bb_v_cs kk h1.1.1 p192
      split at h
      · rename_i h3
        cases h
        simp (discharger := first | assumption | exact True.intro | exact not_false | (refine ab_gK ?_; with_unfolding_all rfl) | exact ab_rgI (by omega) (by omega) | omega) only [ab_a218, bb_y256, ab_y259 hbk hIB hp, val, vwr, bb_y258n hw hk hb hh, if_pos h2, bb_y205 hbk h1.1.1 p192, vcs, ab_e218_0, ab_e218_1, ab_e218_2, ab_e218_3, ab_e218_6, ab_e218_9, ab_e218_10, ab_e218_11, ab_e218_12, ab_e218_15, ab_e218_18, ab_e218_19, ab_e218_20, ab_e218_21, ab_e218_22, ab_e218_23, ab_e218_26, ab_e218_29, ab_e218_30, ab_e218_32, ab_e218_33, ab_e218_36, ab_e218_37, ab_e218_38, ab_e218_39, ab_e218_42, ab_e218_45, ab_e218_46, ab_e218_48, ab_e218_49, ab_e218_52, ab_e218_53, ab_e218_54, ab_e218_55, ab_e218_58, ab_e218_59, ab_e218_62, ab_e218_63, ab_e218_66, ab_e218_67, ab_e218_68, ab_e218_71, ab_e218_72, ab_e218_75, ab_br_t, ab_br_f, ab_re_v (ab_zz _), ab_re_n (ab_zz _)]
      · exact absurd h Sum.inr_ne_inl

theorem bb_cok218 {K : ab_Kt} {D : Nat → Int → Int} {L : Nat → Int → Int64} {z : ab_Z} {c : Int} {g : Int → Int} (hw : bb_WS c g) (hk : bb_KS D L 19 g) {b p : Int} (hb : ab_rg b) (hp : ab_rg p) {v : Int} {g' : Int → Int} (h : bb_sp_slip g b p = .inr (v, g')) : ∃ D' L', ab_cal K 218 [.ref 18, .int (ab_I b), .int (ab_I p)] (ab_mk D L z) = some (.inl (some (.int (ab_I v))), ab_mk D' L' z) ∧ bb_KS D' L' 19 g' ∧ bb_FR D L D' L' := by
  have n := bb_WS_n hw
  have hsp := ab_sp0
  obtain ⟨⟨q2, q3, q4, q5, q6, q7, q8, q9⟩, kp, ka, kb, kn⟩ := id hk
  unfold bb_sp_slip at h
  split at h
  · rename_i x hh
    cases h
  · rename_i hh
    have hm := bb_at_n hh
    have hb9 := bb_WS_W hw hm.1.1 hm.1.2
    have hn := bb_WB_n hb9
    have b0 := hm.1.1
    have b1 := hm.1.2
    have b6 : b < 6 := by omega
    have hbk := ab_bk_bI hsp b0 b6
    have eB := bb_bI_e 19 b
    have kk := kb b b0 b1
    have hIB := bb_KS_IB hw hk b0 b1
    have hI := bb_WS_IR hw b0 b1
    obtain ⟨⟨f0, f1, f2, f3, f4, f6⟩, f7, f5, -, -⟩ := id kk
    have fd := bb_nd_rg hb9 n.2.2.1.1
    have hal := ab_rall_rg hI
    have hwr := ab_rwr_rg g b p
    have hsl := bb_sl_rg g b p
    have val := bb_v_all kk
    have vwr := bb_v_wr kk hb9 p
    have hr1 : ab_rg 3 := ab_rgI (by omega) (by omega)
    split at h
    · exact absurd h Sum.inl_ne_inr
    · rename_i h1
      have h1 := Decidable.not_not.mp h1
      have h2 : 0 ≤ p ∧ p < ab_rall g b ∧ ab_rwr g b p = 1 := ⟨h1.1.1, h1.1.2, h1.2⟩
      have p0 : 0 ≤ p := h1.1.1
      have p192 : p < 192 := by omega
      have vcs := bb_v_cs kk h1.1.1 p192
      split at h
      · exact absurd h Sum.inl_ne_inr
      · rename_i h3
        obtain ⟨hv, hg⟩ := Prod.mk.inj (Sum.inr.inj h)
        have nsB : 19 ≠ ab_bI 19 b := by omega
        have nBs : ab_bI 19 b ≠ 19 := by omega
        obtain ⟨D', hD'⟩ : ∃ x, x = ab_u (ab_u D (ab_bI 19 b) 5 (D (ab_bI 19 b) 5 + 1)) 19 8 (D 19 8 + 1) := ⟨_, rfl⟩
        obtain ⟨L', hL'⟩ : ∃ x, x = ab_u L (ab_bI 19 b + 5) (p / 64) (L (ab_bI 19 b + 5) (p / 64) ||| bb_l1 (p % 64)) := ⟨_, rfl⟩
        have hrow : ∀ i, i ≠ 19 → i ≠ ab_bI 19 b → D' i = D i := fun i h1 h2 => by rw [hD', ab_u_row h1, ab_u_row h2]
        have hrowL : ∀ i, i ≠ ab_bI 19 b + 5 → L' i = L i := fun i h1 => by rw [hL', ab_u_row h1]
        have cs : ∀ k, D' 19 k = if k = 8 then D 19 8 + 1 else D 19 k := fun k => by rw [hD', ab_u_if, ab_u_row nsB]
        have cB : ∀ k, D' (ab_bI 19 b) k = if k = 5 then D (ab_bI 19 b) 5 + 1 else D (ab_bI 19 b) k := fun k => by rw [hD', ab_u_row nBs, ab_u_if]
        have lo : ∀ k, k < 16 → bb_gs g b p k = if k = 6 then g 6 + 1 else g k := fun k hk => by
          unfold bb_gs
          by_cases h6 : k = 6
          · subst h6
            rw [bb_g1_eq, if_pos rfl]
          · rw [bb_g1_ne h6, bb_g1_ne (by omega), if_neg h6]
        have hR : ∀ w, 0 ≤ w → w < 51 → bb_R (bb_gs g b p) b w = if w = 43 + p / 24 then bb_or (bb_R g b (43 + p / 24)) (p % 24) else bb_R g b w := fun w w0 w1 => by
          rw [bb_gs_R p0 p192 b0 w0 w1]
          by_cases h9 : w = 43 + p / 24
          · rw [if_pos ⟨rfl, h9⟩, if_pos h9]
          · rw [if_neg (fun x => h9 x.2), if_neg h9]
        have hbit : ∀ j, 0 ≤ j → j < 192 → bb_sl (bb_gs g b p) b j = if j = p then 1 else bb_sl g b j := fun j j0 j1 => by
          unfold bb_sl
          rw [hR _ (by omega) (by omega)]
          by_cases h9 : j / 24 = p / 24
          · rw [if_pos (by omega), bb_ib_or (by omega) (by omega)]
            by_cases h8 : j % 24 = p % 24
            · rw [if_pos h8, if_pos (by omega)]
            · rw [if_neg h8, if_neg (fun x => h8 (by rw [x])), h9]
          · rw [if_neg (by omega), if_neg (fun x => h9 (by rw [x]))]
        have hS : ab_S (bb_sl (bb_gs g b p) b) 192 = ab_S (bb_sl g b) 192 + 1 := bb_S_upd p0 p192 (fun j a d e => by rw [hbit j a d, if_neg e]) (by rw [hbit p p0 p192, if_pos rfl]; omega)
        have hrun : ab_cal K 218 [.ref 18, .int (ab_I b), .int (ab_I p)] (ab_mk D L z) = some (.inl (some (.int (ab_I v))), ab_mk D' L' z) := by
          rw [hD', hL', ← hv, hS, ← f5]
          simp (discharger := first | assumption | exact True.intro | exact not_false | (refine ab_gK ?_; with_unfolding_all rfl) | exact ab_rgI (by omega) (by omega) | omega) only [ab_a218, bb_y256, ab_y259 hbk hIB hp, val, vwr, bb_y258n hw hk hb hh, if_pos h2, bb_y205 hbk h1.1.1 p192, vcs, bb_y260 hbk h1.1.1 p192, ab_u_row nBs, ab_u_row nsB, ab_u_eq, ab_e218_0, ab_e218_1, ab_e218_2, ab_e218_3, ab_e218_6, ab_e218_9, ab_e218_10, ab_e218_11, ab_e218_12, ab_e218_15, ab_e218_18, ab_e218_19, ab_e218_20, ab_e218_21, ab_e218_22, ab_e218_23, ab_e218_26, ab_e218_29, ab_e218_30, ab_e218_32, ab_e218_33, ab_e218_36, ab_e218_37, ab_e218_38, ab_e218_39, ab_e218_42, ab_e218_45, ab_e218_46, ab_e218_48, ab_e218_49, ab_e218_52, ab_e218_53, ab_e218_54, ab_e218_55, ab_e218_58, ab_e218_59, ab_e218_62, ab_e218_63, ab_e218_66, ab_e218_67, ab_e218_68, ab_e218_71, ab_e218_72, ab_e218_75, ab_br_t, ab_br_f, ab_re_v (ab_zz _), ab_re_n (ab_zz _)]
        refine ⟨D', L', hrun, ?_, fun i hi => ⟨hrow i (by omega) (by omega), hrowL i (by omega)⟩⟩
        rw [← hg]
        refine bb_KS_bk hw hk b0 b1 ⟨?_, ?_, ?_, ?_, ?_, ?_, ?_, ?_⟩ (fun q a d => ?_) (bb_AB_r (ka b b0 b6) (fun i a d => hrow i (by omega) (by omega))) ?_ (fun i a d e => ⟨hrow i (by omega) (by omega), hrowL i (by omega)⟩) (fun e' a d he w w0 w1 => by rw [bb_gs_R p0 p192 a w0 w1, if_neg (fun x => he x.1)]) (by rw [lo 3 (by omega), if_neg (by omega)]) (by rw [lo 0 (by omega), if_neg (by omega)])
        · rw [cs, if_neg (by omega), lo 3 (by omega), if_neg (by omega), q2]
        · rw [cs, if_neg (by omega), lo 0 (by omega), if_neg (by omega), q3]
        · rw [cs, if_neg (by omega), lo 1 (by omega), if_neg (by omega), q4]
        · rw [cs, if_neg (by omega), lo 2 (by omega), if_neg (by omega), q5]
        · rw [cs, if_neg (by omega), lo 4 (by omega), if_neg (by omega), q6]
        · rw [cs, if_neg (by omega), lo 5 (by omega), if_neg (by omega), q7]
        · rw [cs, if_pos rfl, lo 6 (by omega), if_pos rfl, q8]
        · rw [cs, if_neg (by omega), lo 7 (by omega), if_neg (by omega), q9]
        · have eq := bb_pI_e 19 q
          rw [hrow _ (by omega) (by omega), hrow _ (by omega) (by omega), lo _ (by omega), if_neg (by omega)]
          refine ⟨(kp q a d).1, fun k k0 k1 => ?_⟩
          rw [lo _ (by omega), if_neg (by omega)]
          exact (kp q a d).2 k k0 k1
        · refine ⟨⟨?_, ?_, ?_, ?_, ?_, ?_⟩, ?_, ?_, fun s a d => ?_, fun j j0 j1 => ?_⟩
          · rw [cB, if_neg (by omega), hR 0 (by omega) (by omega), if_neg (by omega)]; exact f0
          · rw [cB, if_neg (by omega), hR 1 (by omega) (by omega), if_neg (by omega)]; exact f1
          · rw [cB, if_neg (by omega), hR 2 (by omega) (by omega), if_neg (by omega)]; exact f2
          · rw [cB, if_neg (by omega), hR 3 (by omega) (by omega), if_neg (by omega)]; exact f3
          · rw [cB, if_neg (by omega), hR 4 (by omega) (by omega), if_neg (by omega)]; exact f4
          · rw [cB, if_neg (by omega), hR 5 (by omega) (by omega), if_neg (by omega)]; exact f6
          · rw [cB, if_neg (by omega), f7, lo 0 (by omega), if_neg (by omega)]
            have r5 : bb_R (bb_gs g b p) b 5 = bb_R g b 5 := by rw [hR 5 (by omega) (by omega), if_neg (by omega)]
            have r6 : bb_R (bb_gs g b p) b 6 = bb_R g b 6 := by rw [hR 6 (by omega) (by omega), if_neg (by omega)]
            unfold bb_nd
            rw [r5, r6]
          · rw [cB, if_pos rfl, hS, f5]
          · rw [hR 3 (by omega) (by omega), if_neg (by omega)] at d
            rw [hrow _ (by omega) (by omega), hrow _ (by omega) (by omega), hrow _ (by omega) (by omega), hrow _ (by omega) (by omega), hR _ (by omega) (by omega), if_neg (by omega), hR _ (by omega) (by omega), if_neg (by omega), hR _ (by omega) (by omega), if_neg (by omega)]
            exact kk.2.2.2.1 s a d
          · rw [hbit j j0 j1, hL', ab_u_if]
            by_cases h9 : j / 64 = p / 64
            · rw [if_pos h9, bb_lb_or (by omega) (by omega) (by omega) (by omega)]
              by_cases h8 : j % 64 = p % 64
              · rw [if_pos h8, if_pos (by omega)]
              · rw [if_neg h8, if_neg (fun x => h8 (by rw [x])), ← h9]
                exact kk.2.2.2.2 j j0 j1
            · rw [if_neg h9, if_neg (fun x => h9 (by rw [x]))]
              exact kk.2.2.2.2 j j0 j1

