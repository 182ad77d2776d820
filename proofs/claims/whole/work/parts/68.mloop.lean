/-! ===== the loop over the commands, in the model ===== -/
theorem bb_l25n {K : ab_Kt} {L : Nat → Int → Int64} {z : ab_Z} {c : Int → Int} {n m s : Int} (f : Nat) (p q a w : Int) (D : Nat → Int → Int) (n60 : n ≤ 60) (p0 : 0 ≤ p) (pn : p ≤ n) (qp : 3 * q ≤ p) (q0 : 0 ≤ q) (hf : 60 < p + f) (hfl : bb_fl c n f p q = (-1, m)) (hT : bb_TT c n f p q (D 507)) (h18 : D 500 18 = m) (h7 : D 500 7 = 0) (h6 : D 500 6 = 1) (h5 : 0 ≤ D 500 5 ∧ D 500 5 ≤ 8) (hw : bb_WS w (D 501)) (hc : w + 1200 * (m - q) ≤ 50000000) {r d i : Int} (h : bb_ex c n f p q (D 501) = .inl (r, d, i)) : ∃ D', ab_ev K 25 66 [some (.ref 500), some (.int (ab_I s)), some (.int (ab_I q)), some (.int (ab_I a))] [] (ab_mk D L z) = ab_ev K 25 95 [some (.ref 500), some (.int (ab_I s)), some (.int (ab_I (i + 1))), some (.int (ab_I 0))] [] (ab_mk D' L z) ∧ (∀ j, j ≠ 500 → j ≠ 501 → D' j = D j) ∧ (∀ k, k ≠ 7 → k ≠ 8 → k ≠ 9 → k ≠ 10 → D' 500 k = D 500 k) ∧ D' 500 7 = 1 ∧ D' 500 8 = r ∧ D' 500 9 = d := by
  cases f with
  | zero => omega
  | succ f =>
    obtain ⟨m1, m2⟩ := bb_fl_m n60 (f + 1) p q p0 pn qp hf hfl
    obtain ⟨r1, r2, r3, r4⟩ := bb_pr_rg c n p pn
    obtain ⟨hp, hfc⟩ := bb_fl_c p0 pn hfl
    have hp2 := r4 hp
    have hc1 : w + 1200 ≤ 50000000 := by omega
    rw [bb_TT1] at hT
    obtain ⟨hTQ, hT2⟩ := hT hp
    rcases hsc : bb_sc (D 501) c n p with ⟨r9, d9⟩ | ⟨v9, g9⟩
    · rw [bb_ex_l hsc] at h
      obtain ⟨i1, i2⟩ := Prod.mk.inj (Sum.inl.inj h)
      obtain ⟨i2, i3⟩ := Prod.mk.inj i2
      subst i1 i2 i3
      obtain ⟨W, hW⟩ : ∃ W, W = bb_ref D r9 d9 := ⟨_, rfl⟩
      have y : ∀ i, i ≠ 500 → W i = D i := fun i b => by rw [hW]; unfold bb_ref; rw [ab_u_row b, ab_u_row b, ab_u_row b, ab_u_row b]
      have y5 : ∀ k, k ≠ 7 → k ≠ 8 → k ≠ 9 → k ≠ 10 → W 500 k = D 500 k := fun k b1 b2 b3 b4 => by rw [hW]; unfold bb_ref; rw [ab_u_ne (.inr b4), ab_u_ne (.inr b3), ab_u_ne (.inr b2), ab_u_ne (.inr b1)]
      have y7 : W 500 7 = 1 := by rw [hW]; unfold bb_ref; rw [ab_u_ne (.inr (by decide)), ab_u_ne (.inr (by decide)), ab_u_ne (.inr (by decide)), ab_u_eq]
      have y8 : W 500 8 = r9 := by rw [hW]; unfold bb_ref; rw [ab_u_ne (.inr (by decide)), ab_u_ne (.inr (by decide)), ab_u_eq]
      have y9 : W 500 9 = d9 := by rw [hW]; unfold bb_ref; rw [ab_u_ne (.inr (by decide)), ab_u_eq]
      have y18 : W 500 18 = m := (y5 18 (by decide) (by decide) (by decide) (by decide)).trans h18
      have e2 := bb_y116n (K := K) (L := L) (z := z) hp q0 (by omega) hTQ hw hc1 hsc
      rw [← hW] at e2
      refine ⟨W, ?_, fun j b _ => y j b, y5, y7, y8, y9⟩
      by_cases hq : q + 1 < m
      · skip
        rw [ab_e25_66]
        simp (discharger := first | assumption | exact True.intro | exact not_false | (refine ab_gK ?_; with_unfolding_all rfl) | exact ab_rgI (by omega) (by omega) | omega) only [h18, h7, e2, ab_e25_0, ab_e25_1, ab_e25_4, ab_e25_5, ab_e25_6, ab_e25_7, ab_e25_10, ab_e25_11, ab_e25_14, ab_e25_15, ab_e25_18, ab_e25_21, ab_e25_22, ab_e25_23, ab_e25_26, ab_e25_27, ab_e25_28, ab_e25_31, ab_e25_32, ab_e25_35, ab_e25_36, ab_e25_39, ab_e25_42, ab_e25_43, ab_e25_44, ab_e25_45, ab_e25_48, ab_e25_49, ab_e25_50, ab_e25_53, ab_e25_54, ab_e25_57, ab_e25_58, ab_e25_59, ab_e25_62, ab_e25_63, ab_e25_64, ab_e25_65, ab_e25_67, ab_e25_68, ab_e25_71, ab_e25_74, ab_e25_75, ab_e25_78, ab_e25_81, ab_e25_82, ab_e25_83, ab_e25_84, ab_e25_85, ab_e25_88, ab_e25_89, ab_e25_92, ab_e25_96, ab_e25_97, ab_e25_100, ab_e25_101, ab_e25_104, ab_e25_107, ab_e25_108, ab_e25_111, ab_e25_112, ab_e25_113, ab_e25_116, ab_e25_117, ab_e25_120, ab_e25_121, ab_e25_122, ab_e25_123, ab_e25_124, ab_e25_127, ab_e25_128, ab_e25_129, ab_e25_132, ab_e25_133, ab_e25_136, ab_e25_137, ab_e25_140, ab_e25_141, ab_e25_142, ab_e25_143, ab_e25_144, ab_e25_147, ab_e25_150, ab_e25_151, ab_e25_154, ab_br_t, ab_br_f, ab_re_v (ab_zz _), ab_re_n (ab_zz _)]
        rw [ab_e25_66]
        simp (discharger := first | assumption | exact True.intro | exact not_false | (refine ab_gK ?_; with_unfolding_all rfl) | exact ab_rgI (by omega) (by omega) | omega) only [y18, y7, ab_e25_0, ab_e25_1, ab_e25_4, ab_e25_5, ab_e25_6, ab_e25_7, ab_e25_10, ab_e25_11, ab_e25_14, ab_e25_15, ab_e25_18, ab_e25_21, ab_e25_22, ab_e25_23, ab_e25_26, ab_e25_27, ab_e25_28, ab_e25_31, ab_e25_32, ab_e25_35, ab_e25_36, ab_e25_39, ab_e25_42, ab_e25_43, ab_e25_44, ab_e25_45, ab_e25_48, ab_e25_49, ab_e25_50, ab_e25_53, ab_e25_54, ab_e25_57, ab_e25_58, ab_e25_59, ab_e25_62, ab_e25_63, ab_e25_64, ab_e25_65, ab_e25_67, ab_e25_68, ab_e25_71, ab_e25_74, ab_e25_75, ab_e25_78, ab_e25_81, ab_e25_82, ab_e25_83, ab_e25_84, ab_e25_85, ab_e25_88, ab_e25_89, ab_e25_92, ab_e25_96, ab_e25_97, ab_e25_100, ab_e25_101, ab_e25_104, ab_e25_107, ab_e25_108, ab_e25_111, ab_e25_112, ab_e25_113, ab_e25_116, ab_e25_117, ab_e25_120, ab_e25_121, ab_e25_122, ab_e25_123, ab_e25_124, ab_e25_127, ab_e25_128, ab_e25_129, ab_e25_132, ab_e25_133, ab_e25_136, ab_e25_137, ab_e25_140, ab_e25_141, ab_e25_142, ab_e25_143, ab_e25_144, ab_e25_147, ab_e25_150, ab_e25_151, ab_e25_154, ab_br_t, ab_br_f, ab_re_v (ab_zz _), ab_re_n (ab_zz _)]
      · skip
        rw [ab_e25_66]
        simp (discharger := first | assumption | exact True.intro | exact not_false | (refine ab_gK ?_; with_unfolding_all rfl) | exact ab_rgI (by omega) (by omega) | omega) only [h18, h7, e2, ab_e25_0, ab_e25_1, ab_e25_4, ab_e25_5, ab_e25_6, ab_e25_7, ab_e25_10, ab_e25_11, ab_e25_14, ab_e25_15, ab_e25_18, ab_e25_21, ab_e25_22, ab_e25_23, ab_e25_26, ab_e25_27, ab_e25_28, ab_e25_31, ab_e25_32, ab_e25_35, ab_e25_36, ab_e25_39, ab_e25_42, ab_e25_43, ab_e25_44, ab_e25_45, ab_e25_48, ab_e25_49, ab_e25_50, ab_e25_53, ab_e25_54, ab_e25_57, ab_e25_58, ab_e25_59, ab_e25_62, ab_e25_63, ab_e25_64, ab_e25_65, ab_e25_67, ab_e25_68, ab_e25_71, ab_e25_74, ab_e25_75, ab_e25_78, ab_e25_81, ab_e25_82, ab_e25_83, ab_e25_84, ab_e25_85, ab_e25_88, ab_e25_89, ab_e25_92, ab_e25_96, ab_e25_97, ab_e25_100, ab_e25_101, ab_e25_104, ab_e25_107, ab_e25_108, ab_e25_111, ab_e25_112, ab_e25_113, ab_e25_116, ab_e25_117, ab_e25_120, ab_e25_121, ab_e25_122, ab_e25_123, ab_e25_124, ab_e25_127, ab_e25_128, ab_e25_129, ab_e25_132, ab_e25_133, ab_e25_136, ab_e25_137, ab_e25_140, ab_e25_141, ab_e25_142, ab_e25_143, ab_e25_144, ab_e25_147, ab_e25_150, ab_e25_151, ab_e25_154, ab_br_t, ab_br_f, ab_re_v (ab_zz _), ab_re_n (ab_zz _)]
        rw [ab_e25_66]
        simp (discharger := first | assumption | exact True.intro | exact not_false | (refine ab_gK ?_; with_unfolding_all rfl) | exact ab_rgI (by omega) (by omega) | omega) only [y18, ab_e25_0, ab_e25_1, ab_e25_4, ab_e25_5, ab_e25_6, ab_e25_7, ab_e25_10, ab_e25_11, ab_e25_14, ab_e25_15, ab_e25_18, ab_e25_21, ab_e25_22, ab_e25_23, ab_e25_26, ab_e25_27, ab_e25_28, ab_e25_31, ab_e25_32, ab_e25_35, ab_e25_36, ab_e25_39, ab_e25_42, ab_e25_43, ab_e25_44, ab_e25_45, ab_e25_48, ab_e25_49, ab_e25_50, ab_e25_53, ab_e25_54, ab_e25_57, ab_e25_58, ab_e25_59, ab_e25_62, ab_e25_63, ab_e25_64, ab_e25_65, ab_e25_67, ab_e25_68, ab_e25_71, ab_e25_74, ab_e25_75, ab_e25_78, ab_e25_81, ab_e25_82, ab_e25_83, ab_e25_84, ab_e25_85, ab_e25_88, ab_e25_89, ab_e25_92, ab_e25_96, ab_e25_97, ab_e25_100, ab_e25_101, ab_e25_104, ab_e25_107, ab_e25_108, ab_e25_111, ab_e25_112, ab_e25_113, ab_e25_116, ab_e25_117, ab_e25_120, ab_e25_121, ab_e25_122, ab_e25_123, ab_e25_124, ab_e25_127, ab_e25_128, ab_e25_129, ab_e25_132, ab_e25_133, ab_e25_136, ab_e25_137, ab_e25_140, ab_e25_141, ab_e25_142, ab_e25_143, ab_e25_144, ab_e25_147, ab_e25_150, ab_e25_151, ab_e25_154, ab_br_t, ab_br_f, ab_re_v (ab_zz _), ab_re_n (ab_zz _)]
    · rw [bb_ex_r hsc] at h
      rcases hfc with ⟨hn2, hm⟩ | ⟨hn2, hfl2⟩
      · rw [if_neg hn2] at h
        exact absurd h Sum.inr_ne_inl
      · rw [if_pos hn2] at h
        have hK : bb_row (bb_keep D 501) 501 g9 = bb_row (ab_u D 500 7 0) 501 g9 := by
          unfold bb_keep
          rw [if_pos h6]
        obtain ⟨W, hW⟩ : ∃ W, W = bb_row (bb_keep D 501) 501 g9 := ⟨_, rfl⟩
        have y : ∀ i, i ≠ 500 → i ≠ 501 → W i = D i := fun i b b2 => by rw [hW, hK, bb_row_ne b2, ab_u_row b]
        have y5 : ∀ k, k ≠ 7 → W 500 k = D 500 k := fun k b => by rw [hW, hK, bb_row_ne (by decide), ab_u_ne (.inr b)]
        have y7 : W 500 7 = 0 := by rw [hW, hK, bb_row_ne (by decide), ab_u_eq]
        have y501 : W 501 = g9 := by rw [hW, bb_row_eq]
        have e2 := bb_y116k (K := K) (L := L) (z := z) hp q0 (by omega) hTQ hw ⟨h5, .inr h6⟩ hc1 hsc
        rw [← hW] at e2
        have hw9 := bb_sc_W hp hw hc1 hsc
        rw [← y501] at h hw9
        obtain ⟨D', i1, i2, i3, i4⟩ := bb_l25n (K := K) (L := L) (z := z) (s := s) f _ (q + 1) v9 (w + 1200) W n60 (by omega) (by omega) (by omega) (by omega) (by omega) hfl2 (by rw [y 507 (by decide) (by decide)]; exact hT2 hn2) ((y5 18 (by decide)).trans h18) y7 ((y5 6 (by decide)).trans h6) (by rw [y5 5 (by decide)]; exact h5) hw9 (by omega) h
        refine ⟨D', ?_, fun j b b2 => (i2 j b b2).trans (y j b b2), fun k b b2 b3 b4 => (i3 k b b2 b3 b4).trans (y5 k b), i4⟩
        refine ab_e25_66.trans ?_
        rw [← i1]
        simp (discharger := first | assumption | exact True.intro | exact not_false | (refine ab_gK ?_; with_unfolding_all rfl) | exact ab_rgI (by omega) (by omega) | omega) only [h18, h7, e2, ab_e25_0, ab_e25_1, ab_e25_4, ab_e25_5, ab_e25_6, ab_e25_7, ab_e25_10, ab_e25_11, ab_e25_14, ab_e25_15, ab_e25_18, ab_e25_21, ab_e25_22, ab_e25_23, ab_e25_26, ab_e25_27, ab_e25_28, ab_e25_31, ab_e25_32, ab_e25_35, ab_e25_36, ab_e25_39, ab_e25_42, ab_e25_43, ab_e25_44, ab_e25_45, ab_e25_48, ab_e25_49, ab_e25_50, ab_e25_53, ab_e25_54, ab_e25_57, ab_e25_58, ab_e25_59, ab_e25_62, ab_e25_63, ab_e25_64, ab_e25_65, ab_e25_67, ab_e25_68, ab_e25_71, ab_e25_74, ab_e25_75, ab_e25_78, ab_e25_81, ab_e25_82, ab_e25_83, ab_e25_84, ab_e25_85, ab_e25_88, ab_e25_89, ab_e25_92, ab_e25_96, ab_e25_97, ab_e25_100, ab_e25_101, ab_e25_104, ab_e25_107, ab_e25_108, ab_e25_111, ab_e25_112, ab_e25_113, ab_e25_116, ab_e25_117, ab_e25_120, ab_e25_121, ab_e25_122, ab_e25_123, ab_e25_124, ab_e25_127, ab_e25_128, ab_e25_129, ab_e25_132, ab_e25_133, ab_e25_136, ab_e25_137, ab_e25_140, ab_e25_141, ab_e25_142, ab_e25_143, ab_e25_144, ab_e25_147, ab_e25_150, ab_e25_151, ab_e25_154, ab_br_t, ab_br_f, ab_re_v (ab_zz _), ab_re_n (ab_zz _)]

theorem bb_l25k {K : ab_Kt} {L : Nat → Int → Int64} {z : ab_Z} {c : Int → Int} {n m s : Int} (f : Nat) (p q a w : Int) (D : Nat → Int → Int) (n60 : n ≤ 60) (p0 : 0 ≤ p) (pn : p ≤ n) (qp : 3 * q ≤ p) (q0 : 0 ≤ q) (hf : 60 < p + f) (hfl : bb_fl c n f p q = (-1, m)) (hT : bb_TT c n f p q (D 507)) (h18 : D 500 18 = m) (h7 : D 500 7 = 0) (h6 : D 500 6 = 1) (h5 : 0 ≤ D 500 5 ∧ D 500 5 ≤ 8) (hw : bb_WS w (D 501)) (hc : w + 1200 * (m - q) ≤ 50000000) {g' : Int → Int} (h : bb_ex c n f p q (D 501) = .inr g') : ∃ D' a9, ab_ev K 25 66 [some (.ref 500), some (.int (ab_I s)), some (.int (ab_I q)), some (.int (ab_I a))] [] (ab_mk D L z) = ab_ev K 25 95 [some (.ref 500), some (.int (ab_I s)), some (.int (ab_I m)), some (.int (ab_I a9))] [] (ab_mk D' L z) ∧ (∀ j, j ≠ 500 → j ≠ 501 → D' j = D j) ∧ (∀ k, k ≠ 7 → D' 500 k = D 500 k) ∧ D' 500 7 = 0 ∧ D' 501 = g' := by
  cases f with
  | zero => omega
  | succ f =>
    obtain ⟨m1, m2⟩ := bb_fl_m n60 (f + 1) p q p0 pn qp hf hfl
    obtain ⟨r1, r2, r3, r4⟩ := bb_pr_rg c n p pn
    obtain ⟨hp, hfc⟩ := bb_fl_c p0 pn hfl
    have hp2 := r4 hp
    have hc1 : w + 1200 ≤ 50000000 := by omega
    rw [bb_TT1] at hT
    obtain ⟨hTQ, hT2⟩ := hT hp
    rcases hsc : bb_sc (D 501) c n p with ⟨r9, d9⟩ | ⟨v9, g9⟩
    · rw [bb_ex_l hsc] at h
      exact absurd h Sum.inl_ne_inr
    · rw [bb_ex_r hsc] at h
      rcases hfc with ⟨hn2, hm⟩ | ⟨hn2, hfl2⟩
      · rw [if_neg hn2] at h
        have hg := Sum.inr.inj h
        subst hg
        have hK : bb_row (bb_keep D 501) 501 g9 = bb_row (ab_u D 500 7 0) 501 g9 := by
          unfold bb_keep
          rw [if_pos h6]
        obtain ⟨W, hW⟩ : ∃ W, W = bb_row (bb_keep D 501) 501 g9 := ⟨_, rfl⟩
        have y : ∀ i, i ≠ 500 → i ≠ 501 → W i = D i := fun i b b2 => by rw [hW, hK, bb_row_ne b2, ab_u_row b]
        have y5 : ∀ k, k ≠ 7 → W 500 k = D 500 k := fun k b => by rw [hW, hK, bb_row_ne (by decide), ab_u_ne (.inr b)]
        have y7 : W 500 7 = 0 := by rw [hW, hK, bb_row_ne (by decide), ab_u_eq]
        have y501 : W 501 = g9 := by rw [hW, bb_row_eq]
        have e2 := bb_y116k (K := K) (L := L) (z := z) hp q0 (by omega) hTQ hw ⟨h5, .inr h6⟩ hc1 hsc
        rw [← hW] at e2
        have y18 : W 500 18 = m := (y5 18 (by decide)).trans h18
        refine ⟨W, v9, ?_, y, y5, y7, y501⟩
        rw [ab_e25_66]
        simp (discharger := first | assumption | exact True.intro | exact not_false | (refine ab_gK ?_; with_unfolding_all rfl) | exact ab_rgI (by omega) (by omega) | omega) only [h18, h7, e2, ← hm, ab_e25_0, ab_e25_1, ab_e25_4, ab_e25_5, ab_e25_6, ab_e25_7, ab_e25_10, ab_e25_11, ab_e25_14, ab_e25_15, ab_e25_18, ab_e25_21, ab_e25_22, ab_e25_23, ab_e25_26, ab_e25_27, ab_e25_28, ab_e25_31, ab_e25_32, ab_e25_35, ab_e25_36, ab_e25_39, ab_e25_42, ab_e25_43, ab_e25_44, ab_e25_45, ab_e25_48, ab_e25_49, ab_e25_50, ab_e25_53, ab_e25_54, ab_e25_57, ab_e25_58, ab_e25_59, ab_e25_62, ab_e25_63, ab_e25_64, ab_e25_65, ab_e25_67, ab_e25_68, ab_e25_71, ab_e25_74, ab_e25_75, ab_e25_78, ab_e25_81, ab_e25_82, ab_e25_83, ab_e25_84, ab_e25_85, ab_e25_88, ab_e25_89, ab_e25_92, ab_e25_96, ab_e25_97, ab_e25_100, ab_e25_101, ab_e25_104, ab_e25_107, ab_e25_108, ab_e25_111, ab_e25_112, ab_e25_113, ab_e25_116, ab_e25_117, ab_e25_120, ab_e25_121, ab_e25_122, ab_e25_123, ab_e25_124, ab_e25_127, ab_e25_128, ab_e25_129, ab_e25_132, ab_e25_133, ab_e25_136, ab_e25_137, ab_e25_140, ab_e25_141, ab_e25_142, ab_e25_143, ab_e25_144, ab_e25_147, ab_e25_150, ab_e25_151, ab_e25_154, ab_br_t, ab_br_f, ab_re_v (ab_zz _), ab_re_n (ab_zz _)]
        rw [ab_e25_66]
        simp (discharger := first | assumption | exact True.intro | exact not_false | (refine ab_gK ?_; with_unfolding_all rfl) | exact ab_rgI (by omega) (by omega) | omega) only [y18, ab_e25_0, ab_e25_1, ab_e25_4, ab_e25_5, ab_e25_6, ab_e25_7, ab_e25_10, ab_e25_11, ab_e25_14, ab_e25_15, ab_e25_18, ab_e25_21, ab_e25_22, ab_e25_23, ab_e25_26, ab_e25_27, ab_e25_28, ab_e25_31, ab_e25_32, ab_e25_35, ab_e25_36, ab_e25_39, ab_e25_42, ab_e25_43, ab_e25_44, ab_e25_45, ab_e25_48, ab_e25_49, ab_e25_50, ab_e25_53, ab_e25_54, ab_e25_57, ab_e25_58, ab_e25_59, ab_e25_62, ab_e25_63, ab_e25_64, ab_e25_65, ab_e25_67, ab_e25_68, ab_e25_71, ab_e25_74, ab_e25_75, ab_e25_78, ab_e25_81, ab_e25_82, ab_e25_83, ab_e25_84, ab_e25_85, ab_e25_88, ab_e25_89, ab_e25_92, ab_e25_96, ab_e25_97, ab_e25_100, ab_e25_101, ab_e25_104, ab_e25_107, ab_e25_108, ab_e25_111, ab_e25_112, ab_e25_113, ab_e25_116, ab_e25_117, ab_e25_120, ab_e25_121, ab_e25_122, ab_e25_123, ab_e25_124, ab_e25_127, ab_e25_128, ab_e25_129, ab_e25_132, ab_e25_133, ab_e25_136, ab_e25_137, ab_e25_140, ab_e25_141, ab_e25_142, ab_e25_143, ab_e25_144, ab_e25_147, ab_e25_150, ab_e25_151, ab_e25_154, ab_br_t, ab_br_f, ab_re_v (ab_zz _), ab_re_n (ab_zz _)]
      · rw [if_pos hn2] at h
        have hK : bb_row (bb_keep D 501) 501 g9 = bb_row (ab_u D 500 7 0) 501 g9 := by
          unfold bb_keep
          rw [if_pos h6]
        obtain ⟨W, hW⟩ : ∃ W, W = bb_row (bb_keep D 501) 501 g9 := ⟨_, rfl⟩
        have y : ∀ i, i ≠ 500 → i ≠ 501 → W i = D i := fun i b b2 => by rw [hW, hK, bb_row_ne b2, ab_u_row b]
        have y5 : ∀ k, k ≠ 7 → W 500 k = D 500 k := fun k b => by rw [hW, hK, bb_row_ne (by decide), ab_u_ne (.inr b)]
        have y7 : W 500 7 = 0 := by rw [hW, hK, bb_row_ne (by decide), ab_u_eq]
        have y501 : W 501 = g9 := by rw [hW, bb_row_eq]
        have e2 := bb_y116k (K := K) (L := L) (z := z) hp q0 (by omega) hTQ hw ⟨h5, .inr h6⟩ hc1 hsc
        rw [← hW] at e2
        have hw9 := bb_sc_W hp hw hc1 hsc
        rw [← y501] at h hw9
        obtain ⟨D', a9, i1, i2, i3, i4⟩ := bb_l25k (K := K) (L := L) (z := z) (s := s) f _ (q + 1) v9 (w + 1200) W n60 (by omega) (by omega) (by omega) (by omega) (by omega) hfl2 (by rw [y 507 (by decide) (by decide)]; exact hT2 hn2) ((y5 18 (by decide)).trans h18) y7 ((y5 6 (by decide)).trans h6) (by rw [y5 5 (by decide)]; exact h5) hw9 (by omega) h
        refine ⟨D', a9, ?_, fun j b b2 => (i2 j b b2).trans (y j b b2), fun k b => (i3 k b).trans (y5 k b), i4⟩
        refine ab_e25_66.trans ?_
        rw [← i1]
        simp (discharger := first | assumption | exact True.intro | exact not_false | (refine ab_gK ?_; with_unfolding_all rfl) | exact ab_rgI (by omega) (by omega) | omega) only [h18, h7, e2, ab_e25_0, ab_e25_1, ab_e25_4, ab_e25_5, ab_e25_6, ab_e25_7, ab_e25_10, ab_e25_11, ab_e25_14, ab_e25_15, ab_e25_18, ab_e25_21, ab_e25_22, ab_e25_23, ab_e25_26, ab_e25_27, ab_e25_28, ab_e25_31, ab_e25_32, ab_e25_35, ab_e25_36, ab_e25_39, ab_e25_42, ab_e25_43, ab_e25_44, ab_e25_45, ab_e25_48, ab_e25_49, ab_e25_50, ab_e25_53, ab_e25_54, ab_e25_57, ab_e25_58, ab_e25_59, ab_e25_62, ab_e25_63, ab_e25_64, ab_e25_65, ab_e25_67, ab_e25_68, ab_e25_71, ab_e25_74, ab_e25_75, ab_e25_78, ab_e25_81, ab_e25_82, ab_e25_83, ab_e25_84, ab_e25_85, ab_e25_88, ab_e25_89, ab_e25_92, ab_e25_96, ab_e25_97, ab_e25_100, ab_e25_101, ab_e25_104, ab_e25_107, ab_e25_108, ab_e25_111, ab_e25_112, ab_e25_113, ab_e25_116, ab_e25_117, ab_e25_120, ab_e25_121, ab_e25_122, ab_e25_123, ab_e25_124, ab_e25_127, ab_e25_128, ab_e25_129, ab_e25_132, ab_e25_133, ab_e25_136, ab_e25_137, ab_e25_140, ab_e25_141, ab_e25_142, ab_e25_143, ab_e25_144, ab_e25_147, ab_e25_150, ab_e25_151, ab_e25_154, ab_br_t, ab_br_f, ab_re_v (ab_zz _), ab_re_n (ab_zz _)]

