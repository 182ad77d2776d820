/-! ===== the model's changes are these: sewing, glue, presses, slips, minutes ===== -/
theorem bb_no75 {K : ab_Kt} {D : Nat → Int → Int} {L : Nat → Int → Int64} {z : ab_Z} {c : Int} (hw : bb_WS c (D 501)) {b : Int} (hb : ab_rg b) {r d : Int} (h : bb_sp_sew (D 501) b = .inl (r, d)) : ab_cal K 75 [.ref 500, .int (ab_I b)] (ab_mk D L z) = some (.inl (some (.int (ab_I 0))), ab_mk (bb_ref D r d) L z) := by
  have n := bb_WS_n hw
  unfold bb_sp_sew at h
  split at h
  · rename_i x hh
    cases h
    simp (discharger := first | assumption | exact True.intro | exact not_false | (refine ab_gK ?_; with_unfolding_all rfl) | exact ab_rgI (by omega) (by omega) | omega) only [ab_a75, bb_y155s hw hb ab_rg0 hh, ab_e75_0, ab_e75_1, ab_e75_2, ab_e75_3, ab_e75_6, ab_e75_9, ab_e75_10, ab_e75_11, ab_e75_12, ab_e75_13, ab_e75_14, ab_e75_17, ab_e75_18, ab_e75_19, ab_e75_20, ab_e75_21, ab_e75_22, ab_e75_25, ab_e75_28, ab_e75_29, ab_e75_31, ab_e75_32, ab_e75_33, ab_e75_34, ab_e75_37, ab_e75_40, ab_e75_41, ab_e75_42, ab_e75_43, ab_e75_44, ab_e75_47, ab_e75_48, ab_e75_49, ab_e75_50, ab_e75_53, ab_e75_54, ab_e75_55, ab_e75_58, ab_e75_59, ab_e75_61, ab_e75_62, ab_e75_63, ab_e75_66, ab_e75_67, ab_e75_68, ab_e75_69, ab_e75_72, ab_e75_73, ab_e75_74, ab_e75_75, ab_e75_78, ab_e75_81, ab_e75_82, ab_e75_85, ab_e75_86, ab_e75_87, ab_e75_88, ab_e75_89, ab_e75_90, ab_e75_91, ab_e75_92, ab_e75_95, ab_e75_96, ab_e75_97, ab_e75_98, ab_e75_99, ab_e75_100, ab_e75_101, ab_e75_102, ab_e75_103, ab_e75_104, ab_e75_105, ab_e75_106, ab_e75_107, ab_e75_110, ab_e75_111, ab_e75_114, ab_e75_115, ab_e75_116, ab_br_t, ab_br_f, ab_re_v (ab_zz _), ab_re_n (ab_zz _)]
  · rename_i hh
    have hm := bb_at_n hh
    have hb9 := bb_WS_W hw hm.1.1 hm.1.2
    have hn := bb_WB_n hb9
    have b0 := hm.1.1
    have b6 : b < 6 := by omega
    have hI := bb_WS_IR hw hm.1.1 hm.1.2
    split at h
    · rename_i h1
      cases h
      simp (discharger := first | assumption | exact True.intro | exact not_false | (refine ab_gK ?_; with_unfolding_all rfl) | exact ab_rgI (by omega) (by omega) | omega) only [ab_a75, bb_y155n hw hb hh, ab_y110, bb_y152, ab_e75_0, ab_e75_1, ab_e75_2, ab_e75_3, ab_e75_6, ab_e75_9, ab_e75_10, ab_e75_11, ab_e75_12, ab_e75_13, ab_e75_14, ab_e75_17, ab_e75_18, ab_e75_19, ab_e75_20, ab_e75_21, ab_e75_22, ab_e75_25, ab_e75_28, ab_e75_29, ab_e75_31, ab_e75_32, ab_e75_33, ab_e75_34, ab_e75_37, ab_e75_40, ab_e75_41, ab_e75_42, ab_e75_43, ab_e75_44, ab_e75_47, ab_e75_48, ab_e75_49, ab_e75_50, ab_e75_53, ab_e75_54, ab_e75_55, ab_e75_58, ab_e75_59, ab_e75_61, ab_e75_62, ab_e75_63, ab_e75_66, ab_e75_67, ab_e75_68, ab_e75_69, ab_e75_72, ab_e75_73, ab_e75_74, ab_e75_75, ab_e75_78, ab_e75_81, ab_e75_82, ab_e75_85, ab_e75_86, ab_e75_87, ab_e75_88, ab_e75_89, ab_e75_90, ab_e75_91, ab_e75_92, ab_e75_95, ab_e75_96, ab_e75_97, ab_e75_98, ab_e75_99, ab_e75_100, ab_e75_101, ab_e75_102, ab_e75_103, ab_e75_104, ab_e75_105, ab_e75_106, ab_e75_107, ab_e75_110, ab_e75_111, ab_e75_114, ab_e75_115, ab_e75_116, ab_br_t, ab_br_f, ab_re_v (ab_zz _), ab_re_n (ab_zz _)]
    · rename_i h1
      have hth := bb_rth_rg hw hm.1.1 hm.1.2 (s := bb_R (D 501) b 4) (by omega) (by omega)
      split at h
      · rename_i h2
        cases h
        simp (discharger := first | assumption | exact True.intro | exact not_false | (refine ab_gK ?_; with_unfolding_all rfl) | exact ab_rgI (by omega) (by omega) | omega) only [ab_a75, bb_y155n hw hb hh, ab_y110, bb_y152, ab_y132 b0 b6 hI, ab_e75_0, ab_e75_1, ab_e75_2, ab_e75_3, ab_e75_6, ab_e75_9, ab_e75_10, ab_e75_11, ab_e75_12, ab_e75_13, ab_e75_14, ab_e75_17, ab_e75_18, ab_e75_19, ab_e75_20, ab_e75_21, ab_e75_22, ab_e75_25, ab_e75_28, ab_e75_29, ab_e75_31, ab_e75_32, ab_e75_33, ab_e75_34, ab_e75_37, ab_e75_40, ab_e75_41, ab_e75_42, ab_e75_43, ab_e75_44, ab_e75_47, ab_e75_48, ab_e75_49, ab_e75_50, ab_e75_53, ab_e75_54, ab_e75_55, ab_e75_58, ab_e75_59, ab_e75_61, ab_e75_62, ab_e75_63, ab_e75_66, ab_e75_67, ab_e75_68, ab_e75_69, ab_e75_72, ab_e75_73, ab_e75_74, ab_e75_75, ab_e75_78, ab_e75_81, ab_e75_82, ab_e75_85, ab_e75_86, ab_e75_87, ab_e75_88, ab_e75_89, ab_e75_90, ab_e75_91, ab_e75_92, ab_e75_95, ab_e75_96, ab_e75_97, ab_e75_98, ab_e75_99, ab_e75_100, ab_e75_101, ab_e75_102, ab_e75_103, ab_e75_104, ab_e75_105, ab_e75_106, ab_e75_107, ab_e75_110, ab_e75_111, ab_e75_114, ab_e75_115, ab_e75_116, ab_br_t, ab_br_f, ab_re_v (ab_zz _), ab_re_n (ab_zz _)]
      · cases h

theorem bb_ok75 {K : ab_Kt} {D : Nat → Int → Int} {L : Nat → Int → Int64} {z : ab_Z} {c : Int} (hw : bb_WS c (D 501)) (hk9 : bb_HK D) {b : Int} (hb : ab_rg b) {v : Int} {g' : Int → Int} (h : bb_sp_sew (D 501) b = .inr (v, g')) : ab_cal K 75 [.ref 500, .int (ab_I b)] (ab_mk D L z) = some (.inl (some (.int (ab_I v))), ab_mk (bb_row (bb_keep D 501) 501 g') L z) := by
  have n := bb_WS_n hw
  unfold bb_sp_sew at h
  split at h
  · rename_i x hh
    cases h
  · rename_i hh
    have hm := bb_at_n hh
    have hb9 := bb_WS_W hw hm.1.1 hm.1.2
    have hn := bb_WB_n hb9
    have b0 := hm.1.1
    have b6 : b < 6 := by omega
    have hI := bb_WS_IR hw hm.1.1 hm.1.2
    split at h
    · cases h
    · rename_i h1
      have hth := bb_rth_rg hw hm.1.1 hm.1.2 (s := bb_R (D 501) b 4) (by omega) (by omega)
      split at h
      · cases h
      · rename_i h2
        obtain ⟨hv, hg⟩ := Prod.mk.inj (Sum.inr.inj h)
        rw [← hv, ← hg]
        simp (discharger := first | assumption | exact True.intro | exact not_false | (refine ab_gK ?_; with_unfolding_all rfl) | exact ab_rgI (by omega) (by omega) | omega) only [ab_a75, bb_y155n hw hb hh, ab_y110, ab_y132 b0 b6 hI, ab_y157, bb_g1_ne, bb_g1_eq, bb_keep_501, bb_row_eq, bb_row_row, bb_u_row, bb_y117 (.inl rfl) hk9.1 hk9.2, ab_e75_0, ab_e75_1, ab_e75_2, ab_e75_3, ab_e75_6, ab_e75_9, ab_e75_10, ab_e75_11, ab_e75_12, ab_e75_13, ab_e75_14, ab_e75_17, ab_e75_18, ab_e75_19, ab_e75_20, ab_e75_21, ab_e75_22, ab_e75_25, ab_e75_28, ab_e75_29, ab_e75_31, ab_e75_32, ab_e75_33, ab_e75_34, ab_e75_37, ab_e75_40, ab_e75_41, ab_e75_42, ab_e75_43, ab_e75_44, ab_e75_47, ab_e75_48, ab_e75_49, ab_e75_50, ab_e75_53, ab_e75_54, ab_e75_55, ab_e75_58, ab_e75_59, ab_e75_61, ab_e75_62, ab_e75_63, ab_e75_66, ab_e75_67, ab_e75_68, ab_e75_69, ab_e75_72, ab_e75_73, ab_e75_74, ab_e75_75, ab_e75_78, ab_e75_81, ab_e75_82, ab_e75_85, ab_e75_86, ab_e75_87, ab_e75_88, ab_e75_89, ab_e75_90, ab_e75_91, ab_e75_92, ab_e75_95, ab_e75_96, ab_e75_97, ab_e75_98, ab_e75_99, ab_e75_100, ab_e75_101, ab_e75_102, ab_e75_103, ab_e75_104, ab_e75_105, ab_e75_106, ab_e75_107, ab_e75_110, ab_e75_111, ab_e75_114, ab_e75_115, ab_e75_116, ab_br_t, ab_br_f, ab_re_v (ab_zz _), ab_re_n (ab_zz _)]

theorem bb_no73 {K : ab_Kt} {D : Nat → Int → Int} {L : Nat → Int → Int64} {z : ab_Z} {c : Int} (hw : bb_WS c (D 501)) {b : Int} (hb : ab_rg b) {r d : Int} (h : bb_sp_unpick (D 501) b = .inl (r, d)) : ab_cal K 73 [.ref 500, .int (ab_I b)] (ab_mk D L z) = some (.inl (some (.int (ab_I 0))), ab_mk (bb_ref D r d) L z) := by
  have n := bb_WS_n hw
  unfold bb_sp_unpick at h
  split at h
  · rename_i x hh
    cases h
    simp (discharger := first | assumption | exact True.intro | exact not_false | (refine ab_gK ?_; with_unfolding_all rfl) | exact ab_rgI (by omega) (by omega) | omega) only [ab_a73, bb_y155s hw hb ab_rg0 hh, ab_e73_0, ab_e73_1, ab_e73_2, ab_e73_3, ab_e73_6, ab_e73_9, ab_e73_10, ab_e73_11, ab_e73_12, ab_e73_13, ab_e73_14, ab_e73_17, ab_e73_20, ab_e73_21, ab_e73_23, ab_e73_24, ab_e73_25, ab_e73_26, ab_e73_29, ab_e73_32, ab_e73_33, ab_e73_34, ab_e73_35, ab_e73_38, ab_e73_41, ab_e73_42, ab_e73_43, ab_e73_44, ab_e73_45, ab_e73_46, ab_e73_47, ab_e73_50, ab_e73_51, ab_e73_52, ab_e73_55, ab_e73_56, ab_e73_59, ab_e73_60, ab_e73_61, ab_e73_62, ab_e73_63, ab_e73_64, ab_e73_65, ab_e73_66, ab_e73_67, ab_e73_68, ab_e73_71, ab_br_t, ab_br_f, ab_re_v (ab_zz _), ab_re_n (ab_zz _)]
  · rename_i hh
    have hm := bb_at_n hh
    have hb9 := bb_WS_W hw hm.1.1 hm.1.2
    have hn := bb_WB_n hb9
    have b0 := hm.1.1
    have b6 : b < 6 := by omega
    have hI := bb_WS_IR hw hm.1.1 hm.1.2
    split at h
    · rename_i h1
      cases h
      simp (discharger := first | assumption | exact True.intro | exact not_false | (refine ab_gK ?_; with_unfolding_all rfl) | exact ab_rgI (by omega) (by omega) | omega) only [ab_a73, bb_y155n hw hb hh, ab_y110, bb_y152, ab_e73_0, ab_e73_1, ab_e73_2, ab_e73_3, ab_e73_6, ab_e73_9, ab_e73_10, ab_e73_11, ab_e73_12, ab_e73_13, ab_e73_14, ab_e73_17, ab_e73_20, ab_e73_21, ab_e73_23, ab_e73_24, ab_e73_25, ab_e73_26, ab_e73_29, ab_e73_32, ab_e73_33, ab_e73_34, ab_e73_35, ab_e73_38, ab_e73_41, ab_e73_42, ab_e73_43, ab_e73_44, ab_e73_45, ab_e73_46, ab_e73_47, ab_e73_50, ab_e73_51, ab_e73_52, ab_e73_55, ab_e73_56, ab_e73_59, ab_e73_60, ab_e73_61, ab_e73_62, ab_e73_63, ab_e73_64, ab_e73_65, ab_e73_66, ab_e73_67, ab_e73_68, ab_e73_71, ab_br_t, ab_br_f, ab_re_v (ab_zz _), ab_re_n (ab_zz _)]
    · cases h

theorem bb_ok73 {K : ab_Kt} {D : Nat → Int → Int} {L : Nat → Int → Int64} {z : ab_Z} {c : Int} (hw : bb_WS c (D 501)) (hk9 : bb_HK D) {b : Int} (hb : ab_rg b) {v : Int} {g' : Int → Int} (h : bb_sp_unpick (D 501) b = .inr (v, g')) : ab_cal K 73 [.ref 500, .int (ab_I b)] (ab_mk D L z) = some (.inl (some (.int (ab_I v))), ab_mk (bb_row (bb_keep D 501) 501 g') L z) := by
  have n := bb_WS_n hw
  unfold bb_sp_unpick at h
  split at h
  · rename_i x hh
    cases h
  · rename_i hh
    have hm := bb_at_n hh
    have hb9 := bb_WS_W hw hm.1.1 hm.1.2
    have hn := bb_WB_n hb9
    have b0 := hm.1.1
    have b6 : b < 6 := by omega
    have hI := bb_WS_IR hw hm.1.1 hm.1.2
    split at h
    · cases h
    · rename_i h1
      obtain ⟨hv, hg⟩ := Prod.mk.inj (Sum.inr.inj h)
      rw [← hv, ← hg]
      simp (discharger := first | assumption | exact True.intro | exact not_false | (refine ab_gK ?_; with_unfolding_all rfl) | exact ab_rgI (by omega) (by omega) | omega) only [ab_a73, bb_y155n hw hb hh, ab_y110, ab_y157, bb_g1_ne, bb_keep_501, bb_row_eq, bb_row_row, bb_u_row, bb_y117 (.inl rfl) hk9.1 hk9.2, ab_e73_0, ab_e73_1, ab_e73_2, ab_e73_3, ab_e73_6, ab_e73_9, ab_e73_10, ab_e73_11, ab_e73_12, ab_e73_13, ab_e73_14, ab_e73_17, ab_e73_20, ab_e73_21, ab_e73_23, ab_e73_24, ab_e73_25, ab_e73_26, ab_e73_29, ab_e73_32, ab_e73_33, ab_e73_34, ab_e73_35, ab_e73_38, ab_e73_41, ab_e73_42, ab_e73_43, ab_e73_44, ab_e73_45, ab_e73_46, ab_e73_47, ab_e73_50, ab_e73_51, ab_e73_52, ab_e73_55, ab_e73_56, ab_e73_59, ab_e73_60, ab_e73_61, ab_e73_62, ab_e73_63, ab_e73_64, ab_e73_65, ab_e73_66, ab_e73_67, ab_e73_68, ab_e73_71, ab_br_t, ab_br_f, ab_re_v (ab_zz _), ab_re_n (ab_zz _)]
      exact ab_fin (by rw [bb_R_lo b0 (by omega) (by omega), bb_R_g1 (by omega) (by omega) (by omega) (by omega), if_pos ⟨rfl, rfl⟩]) rfl

theorem bb_y162 {K : ab_Kt} {D : Nat → Int → Int} {L : Nat → Int → Int64} {z : ab_Z} {q : Int} (h0 : 0 ≤ q) (h1 : q ≤ 2) : ab_cal K 162 [.int (ab_I q)] (ab_mk D L z) = some (.inl (some (.int (ab_I (bb_set q)))), (ab_mk D L z)) := by
  simp (discharger := first | assumption | exact True.intro | exact not_false | (refine ab_gK ?_; with_unfolding_all rfl) | exact ab_rgI (by omega) (by omega) | omega) only [ab_a162, ab_e162_0, ab_e162_1, ab_e162_4, ab_e162_6, ab_e162_9, ab_e162_10, ab_e162_11, ab_e162_14, ab_e162_16, ab_e162_19, ab_e162_21, ab_br_t, ab_br_f, ab_re_v (ab_zz _), ab_re_n (ab_zz _)]
  iterate 2 (all_goals (try (refine ab_br_c (fun hc => ?_) (fun hc => ?_) <;> try simp (discharger := first | assumption | exact True.intro | exact not_false | (refine ab_gK ?_; with_unfolding_all rfl) | exact ab_rgI (by omega) (by omega) | omega) only [ab_a162, ab_e162_0, ab_e162_1, ab_e162_4, ab_e162_6, ab_e162_9, ab_e162_10, ab_e162_11, ab_e162_14, ab_e162_16, ab_e162_19, ab_e162_21, ab_br_t, ab_br_f, ab_re_v (ab_zz _), ab_re_n (ab_zz _)])))
  all_goals exact ab_fin (by unfold bb_set; omega) rfl

theorem bb_no71 {K : ab_Kt} {D : Nat → Int → Int} {L : Nat → Int → Int64} {z : ab_Z} {c : Int} (hw : bb_WS c (D 501)) {b q : Int} (hb : ab_rg b) (hq : ab_rg q) {r d : Int} (h : bb_sp_glue (D 501) b q = .inl (r, d)) : ab_cal K 71 [.ref 500, .int (ab_I b), .int (ab_I q)] (ab_mk D L z) = some (.inl (some (.int (ab_I 0))), ab_mk (bb_ref D r d) L z) := by
  have n := bb_WS_n hw
  unfold bb_sp_glue at h
  split at h
  · rename_i hx
    cases h
    simp (discharger := first | assumption | exact True.intro | exact not_false | (refine ab_gK ?_; with_unfolding_all rfl) | exact ab_rgI (by omega) (by omega) | omega) only [ab_a71, ab_y103, ab_y97, bb_y152, ab_y110, if_neg hx, ab_e71_0, ab_e71_1, ab_e71_2, ab_e71_5, ab_e71_8, ab_e71_9, ab_e71_10, ab_e71_11, ab_e71_14, ab_e71_15, ab_e71_16, ab_e71_17, ab_e71_18, ab_e71_21, ab_e71_24, ab_e71_25, ab_e71_26, ab_e71_27, ab_e71_30, ab_e71_31, ab_e71_32, ab_e71_33, ab_e71_34, ab_e71_37, ab_e71_40, ab_e71_41, ab_e71_42, ab_e71_43, ab_e71_44, ab_e71_45, ab_e71_48, ab_e71_51, ab_e71_52, ab_e71_54, ab_e71_55, ab_e71_58, ab_e71_59, ab_e71_60, ab_e71_61, ab_e71_62, ab_e71_65, ab_e71_66, ab_e71_67, ab_e71_68, ab_e71_71, ab_e71_74, ab_e71_75, ab_e71_77, ab_e71_78, ab_e71_79, ab_e71_80, ab_e71_83, ab_e71_86, ab_e71_87, ab_e71_88, ab_e71_89, ab_e71_92, ab_e71_95, ab_e71_96, ab_e71_97, ab_e71_98, ab_e71_99, ab_e71_102, ab_e71_103, ab_e71_104, ab_e71_105, ab_e71_106, ab_e71_109, ab_e71_110, ab_e71_111, ab_e71_113, ab_e71_114, ab_e71_117, ab_e71_118, ab_e71_119, ab_e71_120, ab_e71_123, ab_e71_124, ab_e71_127, ab_e71_128, ab_e71_131, ab_br_t, ab_br_f, ab_re_v (ab_zz _), ab_re_n (ab_zz _)]
  · rename_i hx
    have hx := Decidable.not_not.mp hx
    split at h
    · rename_i hq9
      cases h
      simp (discharger := first | assumption | exact True.intro | exact not_false | (refine ab_gK ?_; with_unfolding_all rfl) | exact ab_rgI (by omega) (by omega) | omega) only [ab_a71, ab_y103, ab_y97, bb_y152, ab_y110, if_pos hx, if_neg hq9, ab_e71_0, ab_e71_1, ab_e71_2, ab_e71_5, ab_e71_8, ab_e71_9, ab_e71_10, ab_e71_11, ab_e71_14, ab_e71_15, ab_e71_16, ab_e71_17, ab_e71_18, ab_e71_21, ab_e71_24, ab_e71_25, ab_e71_26, ab_e71_27, ab_e71_30, ab_e71_31, ab_e71_32, ab_e71_33, ab_e71_34, ab_e71_37, ab_e71_40, ab_e71_41, ab_e71_42, ab_e71_43, ab_e71_44, ab_e71_45, ab_e71_48, ab_e71_51, ab_e71_52, ab_e71_54, ab_e71_55, ab_e71_58, ab_e71_59, ab_e71_60, ab_e71_61, ab_e71_62, ab_e71_65, ab_e71_66, ab_e71_67, ab_e71_68, ab_e71_71, ab_e71_74, ab_e71_75, ab_e71_77, ab_e71_78, ab_e71_79, ab_e71_80, ab_e71_83, ab_e71_86, ab_e71_87, ab_e71_88, ab_e71_89, ab_e71_92, ab_e71_95, ab_e71_96, ab_e71_97, ab_e71_98, ab_e71_99, ab_e71_102, ab_e71_103, ab_e71_104, ab_e71_105, ab_e71_106, ab_e71_109, ab_e71_110, ab_e71_111, ab_e71_113, ab_e71_114, ab_e71_117, ab_e71_118, ab_e71_119, ab_e71_120, ab_e71_123, ab_e71_124, ab_e71_127, ab_e71_128, ab_e71_131, ab_br_t, ab_br_f, ab_re_v (ab_zz _), ab_re_n (ab_zz _)]
    · rename_i hq9
      have hq9 := Decidable.not_not.mp hq9
      split at h
      · rename_i x hh
        cases h
        simp (discharger := first | assumption | exact True.intro | exact not_false | (refine ab_gK ?_; with_unfolding_all rfl) | exact ab_rgI (by omega) (by omega) | omega) only [ab_a71, ab_y103, ab_y97, bb_y152, ab_y110, if_pos hx, if_pos hq9, bb_y155s hw hb ab_rg0 hh, ab_e71_0, ab_e71_1, ab_e71_2, ab_e71_5, ab_e71_8, ab_e71_9, ab_e71_10, ab_e71_11, ab_e71_14, ab_e71_15, ab_e71_16, ab_e71_17, ab_e71_18, ab_e71_21, ab_e71_24, ab_e71_25, ab_e71_26, ab_e71_27, ab_e71_30, ab_e71_31, ab_e71_32, ab_e71_33, ab_e71_34, ab_e71_37, ab_e71_40, ab_e71_41, ab_e71_42, ab_e71_43, ab_e71_44, ab_e71_45, ab_e71_48, ab_e71_51, ab_e71_52, ab_e71_54, ab_e71_55, ab_e71_58, ab_e71_59, ab_e71_60, ab_e71_61, ab_e71_62, ab_e71_65, ab_e71_66, ab_e71_67, ab_e71_68, ab_e71_71, ab_e71_74, ab_e71_75, ab_e71_77, ab_e71_78, ab_e71_79, ab_e71_80, ab_e71_83, ab_e71_86, ab_e71_87, ab_e71_88, ab_e71_89, ab_e71_92, ab_e71_95, ab_e71_96, ab_e71_97, ab_e71_98, ab_e71_99, ab_e71_102, ab_e71_103, ab_e71_104, ab_e71_105, ab_e71_106, ab_e71_109, ab_e71_110, ab_e71_111, ab_e71_113, ab_e71_114, ab_e71_117, ab_e71_118, ab_e71_119, ab_e71_120, ab_e71_123, ab_e71_124, ab_e71_127, ab_e71_128, ab_e71_131, ab_br_t, ab_br_f, ab_re_v (ab_zz _), ab_re_n (ab_zz _)]
      · rename_i _ hh
        have hm := bb_at_n hh
        have hb9 := bb_WS_W hw hm.1.1 hm.1.2
        have hn := bb_WB_n hb9
        have b0 := hm.1.1
        have b6 : b < 6 := by omega
        have hI := bb_WS_IR hw hm.1.1 hm.1.2
        split at h
        · rename_i h1
          cases h
          simp (discharger := first | assumption | exact True.intro | exact not_false | (refine ab_gK ?_; with_unfolding_all rfl) | exact ab_rgI (by omega) (by omega) | omega) only [ab_a71, ab_y103, ab_y97, bb_y152, ab_y110, if_pos hx, if_pos hq9, bb_y155n hw hb hh, ab_e71_0, ab_e71_1, ab_e71_2, ab_e71_5, ab_e71_8, ab_e71_9, ab_e71_10, ab_e71_11, ab_e71_14, ab_e71_15, ab_e71_16, ab_e71_17, ab_e71_18, ab_e71_21, ab_e71_24, ab_e71_25, ab_e71_26, ab_e71_27, ab_e71_30, ab_e71_31, ab_e71_32, ab_e71_33, ab_e71_34, ab_e71_37, ab_e71_40, ab_e71_41, ab_e71_42, ab_e71_43, ab_e71_44, ab_e71_45, ab_e71_48, ab_e71_51, ab_e71_52, ab_e71_54, ab_e71_55, ab_e71_58, ab_e71_59, ab_e71_60, ab_e71_61, ab_e71_62, ab_e71_65, ab_e71_66, ab_e71_67, ab_e71_68, ab_e71_71, ab_e71_74, ab_e71_75, ab_e71_77, ab_e71_78, ab_e71_79, ab_e71_80, ab_e71_83, ab_e71_86, ab_e71_87, ab_e71_88, ab_e71_89, ab_e71_92, ab_e71_95, ab_e71_96, ab_e71_97, ab_e71_98, ab_e71_99, ab_e71_102, ab_e71_103, ab_e71_104, ab_e71_105, ab_e71_106, ab_e71_109, ab_e71_110, ab_e71_111, ab_e71_113, ab_e71_114, ab_e71_117, ab_e71_118, ab_e71_119, ab_e71_120, ab_e71_123, ab_e71_124, ab_e71_127, ab_e71_128, ab_e71_131, ab_br_t, ab_br_f, ab_re_v (ab_zz _), ab_re_n (ab_zz _)]
        · rename_i h1
          split at h
          · rename_i h2
            cases h
            simp (discharger := first | assumption | exact True.intro | exact not_false | (refine ab_gK ?_; with_unfolding_all rfl) | exact ab_rgI (by omega) (by omega) | omega) only [ab_a71, ab_y103, ab_y97, bb_y152, ab_y110, if_pos hx, if_pos hq9, bb_y155n hw hb hh, ab_e71_0, ab_e71_1, ab_e71_2, ab_e71_5, ab_e71_8, ab_e71_9, ab_e71_10, ab_e71_11, ab_e71_14, ab_e71_15, ab_e71_16, ab_e71_17, ab_e71_18, ab_e71_21, ab_e71_24, ab_e71_25, ab_e71_26, ab_e71_27, ab_e71_30, ab_e71_31, ab_e71_32, ab_e71_33, ab_e71_34, ab_e71_37, ab_e71_40, ab_e71_41, ab_e71_42, ab_e71_43, ab_e71_44, ab_e71_45, ab_e71_48, ab_e71_51, ab_e71_52, ab_e71_54, ab_e71_55, ab_e71_58, ab_e71_59, ab_e71_60, ab_e71_61, ab_e71_62, ab_e71_65, ab_e71_66, ab_e71_67, ab_e71_68, ab_e71_71, ab_e71_74, ab_e71_75, ab_e71_77, ab_e71_78, ab_e71_79, ab_e71_80, ab_e71_83, ab_e71_86, ab_e71_87, ab_e71_88, ab_e71_89, ab_e71_92, ab_e71_95, ab_e71_96, ab_e71_97, ab_e71_98, ab_e71_99, ab_e71_102, ab_e71_103, ab_e71_104, ab_e71_105, ab_e71_106, ab_e71_109, ab_e71_110, ab_e71_111, ab_e71_113, ab_e71_114, ab_e71_117, ab_e71_118, ab_e71_119, ab_e71_120, ab_e71_123, ab_e71_124, ab_e71_127, ab_e71_128, ab_e71_131, ab_br_t, ab_br_f, ab_re_v (ab_zz _), ab_re_n (ab_zz _)]
          · cases h

theorem bb_ok71 {K : ab_Kt} {D : Nat → Int → Int} {L : Nat → Int → Int64} {z : ab_Z} {c : Int} (hw : bb_WS c (D 501)) (hk9 : bb_HK D) {b q : Int} (hb : ab_rg b) (hq : ab_rg q) {v : Int} {g' : Int → Int} (h : bb_sp_glue (D 501) b q = .inr (v, g')) : ab_cal K 71 [.ref 500, .int (ab_I b), .int (ab_I q)] (ab_mk D L z) = some (.inl (some (.int (ab_I v))), ab_mk (bb_row (bb_keep D 501) 501 g') L z) := by
  have n := bb_WS_n hw
  unfold bb_sp_glue at h
  split at h
  · rename_i hx
    cases h
  · rename_i hx
    have hx := Decidable.not_not.mp hx
    split at h
    · rename_i hq9
      cases h
    · rename_i hq9
      have hq9 := Decidable.not_not.mp hq9
      split at h
      · rename_i x hh
        cases h
      · rename_i _ hh
        have hm := bb_at_n hh
        have hb9 := bb_WS_W hw hm.1.1 hm.1.2
        have hn := bb_WB_n hb9
        have b0 := hm.1.1
        have b6 : b < 6 := by omega
        have hI := bb_WS_IR hw hm.1.1 hm.1.2
        split at h
        · cases h
        · rename_i h1
          split at h
          · cases h
          · rename_i h2
            obtain ⟨hv, hg⟩ := Prod.mk.inj (Sum.inr.inj h)
            rw [← hv, ← hg]
            simp (discharger := first | assumption | exact True.intro | exact not_false | (refine ab_gK ?_; with_unfolding_all rfl) | exact ab_rgI (by omega) (by omega) | omega) only [ab_a71, ab_y103, ab_y97, bb_y152, ab_y110, if_pos hx, if_pos hq9, bb_y155n hw hb hh, bb_y162, ab_y157, bb_g1_ne, bb_keep_501, bb_row_eq, bb_row_row, bb_u_row, bb_y117 (.inl rfl) hk9.1 hk9.2, ab_e71_0, ab_e71_1, ab_e71_2, ab_e71_5, ab_e71_8, ab_e71_9, ab_e71_10, ab_e71_11, ab_e71_14, ab_e71_15, ab_e71_16, ab_e71_17, ab_e71_18, ab_e71_21, ab_e71_24, ab_e71_25, ab_e71_26, ab_e71_27, ab_e71_30, ab_e71_31, ab_e71_32, ab_e71_33, ab_e71_34, ab_e71_37, ab_e71_40, ab_e71_41, ab_e71_42, ab_e71_43, ab_e71_44, ab_e71_45, ab_e71_48, ab_e71_51, ab_e71_52, ab_e71_54, ab_e71_55, ab_e71_58, ab_e71_59, ab_e71_60, ab_e71_61, ab_e71_62, ab_e71_65, ab_e71_66, ab_e71_67, ab_e71_68, ab_e71_71, ab_e71_74, ab_e71_75, ab_e71_77, ab_e71_78, ab_e71_79, ab_e71_80, ab_e71_83, ab_e71_86, ab_e71_87, ab_e71_88, ab_e71_89, ab_e71_92, ab_e71_95, ab_e71_96, ab_e71_97, ab_e71_98, ab_e71_99, ab_e71_102, ab_e71_103, ab_e71_104, ab_e71_105, ab_e71_106, ab_e71_109, ab_e71_110, ab_e71_111, ab_e71_113, ab_e71_114, ab_e71_117, ab_e71_118, ab_e71_119, ab_e71_120, ab_e71_123, ab_e71_124, ab_e71_127, ab_e71_128, ab_e71_131, ab_br_t, ab_br_f, ab_re_v (ab_zz _), ab_re_n (ab_zz _)]

theorem bb_no69 {K : ab_Kt} {D : Nat → Int → Int} {L : Nat → Int → Int64} {z : ab_Z} {c : Int} (hw : bb_WS c (D 501)) {b p : Int} (hb : ab_rg b) (hp : ab_rg p) {r d : Int} (h : bb_sp_press (D 501) b p = .inl (r, d)) : ab_cal K 69 [.ref 500, .int (ab_I b), .int (ab_I p)] (ab_mk D L z) = some (.inl (some (.int (ab_I 0))), ab_mk (bb_ref D r d) L z) := by
  have n := bb_WS_n hw
  unfold bb_sp_press at h
  have hr1 : ab_rg 1 := ab_rgI (by omega) (by omega)
  split at h
  · rename_i hx
    cases h
    simp (discharger := first | assumption | exact True.intro | exact not_false | (refine ab_gK ?_; with_unfolding_all rfl) | exact ab_rgI (by omega) (by omega) | omega) only [ab_a69, ab_y103, ab_y122, bb_y152, ab_y110, ab_y100, if_neg hx, ab_e69_0, ab_e69_1, ab_e69_2, ab_e69_5, ab_e69_8, ab_e69_9, ab_e69_10, ab_e69_11, ab_e69_14, ab_e69_15, ab_e69_16, ab_e69_19, ab_e69_22, ab_e69_23, ab_e69_24, ab_e69_25, ab_e69_28, ab_e69_29, ab_e69_30, ab_e69_31, ab_e69_32, ab_e69_35, ab_e69_38, ab_e69_39, ab_e69_40, ab_e69_41, ab_e69_42, ab_e69_45, ab_e69_46, ab_e69_49, ab_e69_50, ab_e69_51, ab_e69_52, ab_e69_55, ab_e69_56, ab_e69_57, ab_e69_58, ab_e69_61, ab_e69_64, ab_e69_65, ab_e69_68, ab_e69_70, ab_e69_71, ab_e69_72, ab_e69_73, ab_e69_74, ab_e69_75, ab_e69_76, ab_e69_77, ab_e69_78, ab_e69_81, ab_e69_82, ab_e69_83, ab_e69_84, ab_e69_85, ab_e69_88, ab_e69_90, ab_e69_91, ab_e69_92, ab_e69_93, ab_e69_94, ab_e69_95, ab_e69_96, ab_e69_97, ab_e69_98, ab_e69_99, ab_e69_100, ab_e69_101, ab_e69_102, ab_e69_103, ab_e69_106, ab_e69_107, ab_e69_108, ab_e69_111, ab_br_t, ab_br_f, ab_re_v (ab_zz _), ab_re_n (ab_zz _)]
  · rename_i hx
    have hx := Decidable.not_not.mp hx
    split at h
    · rename_i hq9
      cases h
      simp (discharger := first | assumption | exact True.intro | exact not_false | (refine ab_gK ?_; with_unfolding_all rfl) | exact ab_rgI (by omega) (by omega) | omega) only [ab_a69, ab_y103, ab_y122, bb_y152, ab_y110, ab_y100, if_pos hx, if_neg hq9, ab_e69_0, ab_e69_1, ab_e69_2, ab_e69_5, ab_e69_8, ab_e69_9, ab_e69_10, ab_e69_11, ab_e69_14, ab_e69_15, ab_e69_16, ab_e69_19, ab_e69_22, ab_e69_23, ab_e69_24, ab_e69_25, ab_e69_28, ab_e69_29, ab_e69_30, ab_e69_31, ab_e69_32, ab_e69_35, ab_e69_38, ab_e69_39, ab_e69_40, ab_e69_41, ab_e69_42, ab_e69_45, ab_e69_46, ab_e69_49, ab_e69_50, ab_e69_51, ab_e69_52, ab_e69_55, ab_e69_56, ab_e69_57, ab_e69_58, ab_e69_61, ab_e69_64, ab_e69_65, ab_e69_68, ab_e69_70, ab_e69_71, ab_e69_72, ab_e69_73, ab_e69_74, ab_e69_75, ab_e69_76, ab_e69_77, ab_e69_78, ab_e69_81, ab_e69_82, ab_e69_83, ab_e69_84, ab_e69_85, ab_e69_88, ab_e69_90, ab_e69_91, ab_e69_92, ab_e69_93, ab_e69_94, ab_e69_95, ab_e69_96, ab_e69_97, ab_e69_98, ab_e69_99, ab_e69_100, ab_e69_101, ab_e69_102, ab_e69_103, ab_e69_106, ab_e69_107, ab_e69_108, ab_e69_111, ab_br_t, ab_br_f, ab_re_v (ab_zz _), ab_re_n (ab_zz _)]
    · rename_i hq9
      have hq9 := Decidable.not_not.mp hq9
      split at h
      · rename_i x hh
        cases h
        simp (discharger := first | assumption | exact True.intro | exact not_false | (refine ab_gK ?_; with_unfolding_all rfl) | exact ab_rgI (by omega) (by omega) | omega) only [ab_a69, ab_y103, ab_y122, bb_y152, ab_y110, ab_y100, if_pos hx, if_pos hq9, bb_y155s hw hb hr1 hh, ab_e69_0, ab_e69_1, ab_e69_2, ab_e69_5, ab_e69_8, ab_e69_9, ab_e69_10, ab_e69_11, ab_e69_14, ab_e69_15, ab_e69_16, ab_e69_19, ab_e69_22, ab_e69_23, ab_e69_24, ab_e69_25, ab_e69_28, ab_e69_29, ab_e69_30, ab_e69_31, ab_e69_32, ab_e69_35, ab_e69_38, ab_e69_39, ab_e69_40, ab_e69_41, ab_e69_42, ab_e69_45, ab_e69_46, ab_e69_49, ab_e69_50, ab_e69_51, ab_e69_52, ab_e69_55, ab_e69_56, ab_e69_57, ab_e69_58, ab_e69_61, ab_e69_64, ab_e69_65, ab_e69_68, ab_e69_70, ab_e69_71, ab_e69_72, ab_e69_73, ab_e69_74, ab_e69_75, ab_e69_76, ab_e69_77, ab_e69_78, ab_e69_81, ab_e69_82, ab_e69_83, ab_e69_84, ab_e69_85, ab_e69_88, ab_e69_90, ab_e69_91, ab_e69_92, ab_e69_93, ab_e69_94, ab_e69_95, ab_e69_96, ab_e69_97, ab_e69_98, ab_e69_99, ab_e69_100, ab_e69_101, ab_e69_102, ab_e69_103, ab_e69_106, ab_e69_107, ab_e69_108, ab_e69_111, ab_br_t, ab_br_f, ab_re_v (ab_zz _), ab_re_n (ab_zz _)]
      · rename_i _ hh
        have hm := bb_at_n hh
        have hb9 := bb_WS_W hw hm.1.1 hm.1.2
        have hn := bb_WB_n hb9
        have b0 := hm.1.1
        have b6 : b < 6 := by omega
        have hI := bb_WS_IR hw hm.1.1 hm.1.2
        have hgt := hw.2.2.2.2.2.2.1 p hq9.1 (by omega)
        split at h
        · rename_i h1
          cases h
          simp (discharger := first | assumption | exact True.intro | exact not_false | (refine ab_gK ?_; with_unfolding_all rfl) | exact ab_rgI (by omega) (by omega) | omega) only [ab_a69, ab_y103, ab_y122, bb_y152, ab_y110, ab_y100, if_pos hx, if_pos hq9, bb_y155n hw hb hh, ab_e69_0, ab_e69_1, ab_e69_2, ab_e69_5, ab_e69_8, ab_e69_9, ab_e69_10, ab_e69_11, ab_e69_14, ab_e69_15, ab_e69_16, ab_e69_19, ab_e69_22, ab_e69_23, ab_e69_24, ab_e69_25, ab_e69_28, ab_e69_29, ab_e69_30, ab_e69_31, ab_e69_32, ab_e69_35, ab_e69_38, ab_e69_39, ab_e69_40, ab_e69_41, ab_e69_42, ab_e69_45, ab_e69_46, ab_e69_49, ab_e69_50, ab_e69_51, ab_e69_52, ab_e69_55, ab_e69_56, ab_e69_57, ab_e69_58, ab_e69_61, ab_e69_64, ab_e69_65, ab_e69_68, ab_e69_70, ab_e69_71, ab_e69_72, ab_e69_73, ab_e69_74, ab_e69_75, ab_e69_76, ab_e69_77, ab_e69_78, ab_e69_81, ab_e69_82, ab_e69_83, ab_e69_84, ab_e69_85, ab_e69_88, ab_e69_90, ab_e69_91, ab_e69_92, ab_e69_93, ab_e69_94, ab_e69_95, ab_e69_96, ab_e69_97, ab_e69_98, ab_e69_99, ab_e69_100, ab_e69_101, ab_e69_102, ab_e69_103, ab_e69_106, ab_e69_107, ab_e69_108, ab_e69_111, ab_br_t, ab_br_f, ab_re_v (ab_zz _), ab_re_n (ab_zz _)]
        · cases h

theorem bb_ok69 {K : ab_Kt} {D : Nat → Int → Int} {L : Nat → Int → Int64} {z : ab_Z} {c : Int} (hw : bb_WS c (D 501)) (hk9 : bb_HK D) {b p : Int} (hb : ab_rg b) (hp : ab_rg p) {v : Int} {g' : Int → Int} (h : bb_sp_press (D 501) b p = .inr (v, g')) : ab_cal K 69 [.ref 500, .int (ab_I b), .int (ab_I p)] (ab_mk D L z) = some (.inl (some (.int (ab_I v))), ab_mk (bb_row (bb_keep D 501) 501 g') L z) := by
  have n := bb_WS_n hw
  unfold bb_sp_press at h
  split at h
  · rename_i hx
    cases h
  · rename_i hx
    have hx := Decidable.not_not.mp hx
    split at h
    · rename_i hq9
      cases h
    · rename_i hq9
      have hq9 := Decidable.not_not.mp hq9
      split at h
      · rename_i x hh
        cases h
      · rename_i _ hh
        have hm := bb_at_n hh
        have hb9 := bb_WS_W hw hm.1.1 hm.1.2
        have hn := bb_WB_n hb9
        have b0 := hm.1.1
        have b6 : b < 6 := by omega
        have hI := bb_WS_IR hw hm.1.1 hm.1.2
        have hgt := hw.2.2.2.2.2.2.1 p hq9.1 (by omega)
        split at h
        · cases h
        · rename_i h1
          obtain ⟨hv, hg⟩ := Prod.mk.inj (Sum.inr.inj h)
          rw [← hv, ← hg]
          simp (discharger := first | assumption | exact True.intro | exact not_false | (refine ab_gK ?_; with_unfolding_all rfl) | exact ab_rgI (by omega) (by omega) | omega) only [ab_a69, ab_y103, ab_y122, bb_y152, ab_y110, ab_y100, if_pos hx, if_pos hq9, bb_y155n hw hb hh, ab_y157, bb_g1_ne, bb_g1_eq, bb_keep_501, bb_row_eq, bb_row_row, bb_u_row, bb_y117 (.inl rfl) hk9.1 hk9.2, ab_e69_0, ab_e69_1, ab_e69_2, ab_e69_5, ab_e69_8, ab_e69_9, ab_e69_10, ab_e69_11, ab_e69_14, ab_e69_15, ab_e69_16, ab_e69_19, ab_e69_22, ab_e69_23, ab_e69_24, ab_e69_25, ab_e69_28, ab_e69_29, ab_e69_30, ab_e69_31, ab_e69_32, ab_e69_35, ab_e69_38, ab_e69_39, ab_e69_40, ab_e69_41, ab_e69_42, ab_e69_45, ab_e69_46, ab_e69_49, ab_e69_50, ab_e69_51, ab_e69_52, ab_e69_55, ab_e69_56, ab_e69_57, ab_e69_58, ab_e69_61, ab_e69_64, ab_e69_65, ab_e69_68, ab_e69_70, ab_e69_71, ab_e69_72, ab_e69_73, ab_e69_74, ab_e69_75, ab_e69_76, ab_e69_77, ab_e69_78, ab_e69_81, ab_e69_82, ab_e69_83, ab_e69_84, ab_e69_85, ab_e69_88, ab_e69_90, ab_e69_91, ab_e69_92, ab_e69_93, ab_e69_94, ab_e69_95, ab_e69_96, ab_e69_97, ab_e69_98, ab_e69_99, ab_e69_100, ab_e69_101, ab_e69_102, ab_e69_103, ab_e69_106, ab_e69_107, ab_e69_108, ab_e69_111, ab_br_t, ab_br_f, ab_re_v (ab_zz _), ab_re_n (ab_zz _)]

theorem bb_no67 {K : ab_Kt} {D : Nat → Int → Int} {L : Nat → Int → Int64} {z : ab_Z} {c : Int} (hw : bb_WS c (D 501)) {p : Int} (hp : ab_rg p) {r d : Int} (h : bb_sp_lift (D 501) p = .inl (r, d)) : ab_cal K 67 [.ref 500, .int (ab_I p)] (ab_mk D L z) = some (.inl (some (.int (ab_I 0))), ab_mk (bb_ref D r d) L z) := by
  have n := bb_WS_n hw
  unfold bb_sp_lift at h
  split at h
  · rename_i hq9
    cases h
    simp (discharger := first | assumption | exact True.intro | exact not_false | (refine ab_gK ?_; with_unfolding_all rfl) | exact ab_rgI (by omega) (by omega) | omega) only [ab_a67, ab_y122, bb_y152, ab_y100, ab_y123, if_neg hq9, ab_e67_0, ab_e67_1, ab_e67_4, ab_e67_7, ab_e67_8, ab_e67_9, ab_e67_10, ab_e67_13, ab_e67_14, ab_e67_15, ab_e67_16, ab_e67_19, ab_e67_22, ab_e67_23, ab_e67_25, ab_e67_26, ab_e67_29, ab_e67_30, ab_e67_31, ab_e67_32, ab_e67_33, ab_e67_34, ab_e67_37, ab_e67_38, ab_e67_39, ab_e67_42, ab_e67_43, ab_e67_44, ab_e67_45, ab_e67_48, ab_e67_51, ab_e67_52, ab_e67_54, ab_e67_55, ab_e67_56, ab_e67_59, ab_e67_62, ab_e67_63, ab_e67_64, ab_e67_65, ab_e67_68, ab_e67_71, ab_e67_72, ab_e67_75, ab_e67_77, ab_e67_78, ab_e67_79, ab_e67_80, ab_e67_81, ab_e67_82, ab_e67_83, ab_e67_84, ab_e67_85, ab_e67_86, ab_e67_87, ab_e67_88, ab_e67_89, ab_e67_90, ab_e67_93, ab_e67_94, ab_br_t, ab_br_f, ab_re_v (ab_zz _), ab_re_n (ab_zz _)]
  · rename_i hq9
    have hq9 := Decidable.not_not.mp hq9
    have hgt := hw.2.2.2.2.2.2.1 p hq9.1 (by omega)
    split at h
    · rename_i h1
      cases h
      simp (discharger := first | assumption | exact True.intro | exact not_false | (refine ab_gK ?_; with_unfolding_all rfl) | exact ab_rgI (by omega) (by omega) | omega) only [ab_a67, ab_y122, bb_y152, ab_y100, ab_y123, if_pos hq9, ab_e67_0, ab_e67_1, ab_e67_4, ab_e67_7, ab_e67_8, ab_e67_9, ab_e67_10, ab_e67_13, ab_e67_14, ab_e67_15, ab_e67_16, ab_e67_19, ab_e67_22, ab_e67_23, ab_e67_25, ab_e67_26, ab_e67_29, ab_e67_30, ab_e67_31, ab_e67_32, ab_e67_33, ab_e67_34, ab_e67_37, ab_e67_38, ab_e67_39, ab_e67_42, ab_e67_43, ab_e67_44, ab_e67_45, ab_e67_48, ab_e67_51, ab_e67_52, ab_e67_54, ab_e67_55, ab_e67_56, ab_e67_59, ab_e67_62, ab_e67_63, ab_e67_64, ab_e67_65, ab_e67_68, ab_e67_71, ab_e67_72, ab_e67_75, ab_e67_77, ab_e67_78, ab_e67_79, ab_e67_80, ab_e67_81, ab_e67_82, ab_e67_83, ab_e67_84, ab_e67_85, ab_e67_86, ab_e67_87, ab_e67_88, ab_e67_89, ab_e67_90, ab_e67_93, ab_e67_94, ab_br_t, ab_br_f, ab_re_v (ab_zz _), ab_re_n (ab_zz _)]
    · rename_i h1
      have ht := hw.2.2.2.2.2.2.2.1 p (D 501 (8 + 4 * p) - 1) hq9.1 (by omega) (by omega) (by omega)
      have htd : D 501 (8 + 4 * p + 1 + (D 501 (8 + 4 * p) - 1)) = bb_top (D 501) p := rfl
      rw [htd] at ht
      have e0 := ht.1.1
      have e6 : bb_top (D 501) p < 6 := by omega
      have hI := bb_WS_IR hw ht.1.1 ht.1.2
      have hnd : 0 ≤ ab_rneed (D 501) (bb_top (D 501) p) ∧ ab_rneed (D 501) (bb_top (D 501) p) ≤ 30 := bb_nd_rg (bb_WS_W hw ht.1.1 ht.1.2) n.2.2.1.1
      split at h
      · rename_i h2
        cases h
        simp (discharger := first | assumption | exact True.intro | exact not_false | (refine ab_gK ?_; with_unfolding_all rfl) | exact ab_rgI (by omega) (by omega) | omega) only [ab_a67, ab_y122, bb_y152, ab_y100, ab_y123, if_pos hq9, htd, ab_y125 e0 e6 hI, ab_e67_0, ab_e67_1, ab_e67_4, ab_e67_7, ab_e67_8, ab_e67_9, ab_e67_10, ab_e67_13, ab_e67_14, ab_e67_15, ab_e67_16, ab_e67_19, ab_e67_22, ab_e67_23, ab_e67_25, ab_e67_26, ab_e67_29, ab_e67_30, ab_e67_31, ab_e67_32, ab_e67_33, ab_e67_34, ab_e67_37, ab_e67_38, ab_e67_39, ab_e67_42, ab_e67_43, ab_e67_44, ab_e67_45, ab_e67_48, ab_e67_51, ab_e67_52, ab_e67_54, ab_e67_55, ab_e67_56, ab_e67_59, ab_e67_62, ab_e67_63, ab_e67_64, ab_e67_65, ab_e67_68, ab_e67_71, ab_e67_72, ab_e67_75, ab_e67_77, ab_e67_78, ab_e67_79, ab_e67_80, ab_e67_81, ab_e67_82, ab_e67_83, ab_e67_84, ab_e67_85, ab_e67_86, ab_e67_87, ab_e67_88, ab_e67_89, ab_e67_90, ab_e67_93, ab_e67_94, ab_br_t, ab_br_f, ab_re_v (ab_zz _), ab_re_n (ab_zz _)]
      · cases h

theorem bb_ok67 {K : ab_Kt} {D : Nat → Int → Int} {L : Nat → Int → Int64} {z : ab_Z} {c : Int} (hw : bb_WS c (D 501)) (hk9 : bb_HK D) {p : Int} (hp : ab_rg p) {v : Int} {g' : Int → Int} (h : bb_sp_lift (D 501) p = .inr (v, g')) : ab_cal K 67 [.ref 500, .int (ab_I p)] (ab_mk D L z) = some (.inl (some (.int (ab_I v))), ab_mk (bb_row (bb_keep D 501) 501 g') L z) := by
  have n := bb_WS_n hw
  unfold bb_sp_lift at h
  split at h
  · cases h
  · rename_i hq9
    have hq9 := Decidable.not_not.mp hq9
    have hgt := hw.2.2.2.2.2.2.1 p hq9.1 (by omega)
    split at h
    · cases h
    · rename_i h1
      have ht := hw.2.2.2.2.2.2.2.1 p (D 501 (8 + 4 * p) - 1) hq9.1 (by omega) (by omega) (by omega)
      have htd : D 501 (8 + 4 * p + 1 + (D 501 (8 + 4 * p) - 1)) = bb_top (D 501) p := rfl
      rw [htd] at ht
      have e0 := ht.1.1
      have e6 : bb_top (D 501) p < 6 := by omega
      have hI := bb_WS_IR hw ht.1.1 ht.1.2
      have hnd : 0 ≤ ab_rneed (D 501) (bb_top (D 501) p) ∧ ab_rneed (D 501) (bb_top (D 501) p) ≤ 30 := bb_nd_rg (bb_WS_W hw ht.1.1 ht.1.2) n.2.2.1.1
      split at h
      · cases h
      · rename_i h2
        obtain ⟨hv, hg⟩ := Prod.mk.inj (Sum.inr.inj h)
        rw [← hv, ← hg]
        simp (discharger := first | assumption | exact True.intro | exact not_false | (refine ab_gK ?_; with_unfolding_all rfl) | exact ab_rgI (by omega) (by omega) | omega) only [ab_a67, ab_y122, bb_y152, ab_y100, ab_y123, if_pos hq9, htd, ab_y125 e0 e6 hI, ab_y157, bb_keep_501, bb_row_eq, bb_row_row, bb_u_row, bb_y117 (.inl rfl) hk9.1 hk9.2, ab_e67_0, ab_e67_1, ab_e67_4, ab_e67_7, ab_e67_8, ab_e67_9, ab_e67_10, ab_e67_13, ab_e67_14, ab_e67_15, ab_e67_16, ab_e67_19, ab_e67_22, ab_e67_23, ab_e67_25, ab_e67_26, ab_e67_29, ab_e67_30, ab_e67_31, ab_e67_32, ab_e67_33, ab_e67_34, ab_e67_37, ab_e67_38, ab_e67_39, ab_e67_42, ab_e67_43, ab_e67_44, ab_e67_45, ab_e67_48, ab_e67_51, ab_e67_52, ab_e67_54, ab_e67_55, ab_e67_56, ab_e67_59, ab_e67_62, ab_e67_63, ab_e67_64, ab_e67_65, ab_e67_68, ab_e67_71, ab_e67_72, ab_e67_75, ab_e67_77, ab_e67_78, ab_e67_79, ab_e67_80, ab_e67_81, ab_e67_82, ab_e67_83, ab_e67_84, ab_e67_85, ab_e67_86, ab_e67_87, ab_e67_88, ab_e67_89, ab_e67_90, ab_e67_93, ab_e67_94, ab_br_t, ab_br_f, ab_re_v (ab_zz _), ab_re_n (ab_zz _)]

theorem bb_no65 {K : ab_Kt} {D : Nat → Int → Int} {L : Nat → Int → Int64} {z : ab_Z} {c : Int} (hw : bb_WS c (D 501)) {b p : Int} (hc9 : c + 1200 ≤ 50000000) (hb : ab_rg b) (hp : ab_rg p) {r d : Int} (h : bb_sp_slip (D 501) b p = .inl (r, d)) : ab_cal K 65 [.ref 500, .int (ab_I b), .int (ab_I p)] (ab_mk D L z) = some (.inl (some (.int (ab_I 0))), ab_mk (bb_ref D r d) L z) := by
  have n := bb_WS_n hw
  have hr1 : ab_rg 3 := ab_rgI (by omega) (by omega)
  unfold bb_sp_slip at h
  split at h
  · rename_i x hh
    cases h
    simp (discharger := first | assumption | exact True.intro | exact not_false | (refine ab_gK ?_; with_unfolding_all rfl) | exact ab_rgI (by omega) (by omega) | omega) only [ab_a65, bb_y155s hw hb hr1 hh, ab_e65_0, ab_e65_1, ab_e65_2, ab_e65_3, ab_e65_6, ab_e65_9, ab_e65_10, ab_e65_11, ab_e65_12, ab_e65_13, ab_e65_14, ab_e65_15, ab_e65_18, ab_e65_19, ab_e65_20, ab_e65_23, ab_e65_26, ab_e65_27, ab_e65_28, ab_e65_29, ab_e65_32, ab_e65_35, ab_e65_36, ab_e65_38, ab_e65_39, ab_e65_42, ab_e65_43, ab_e65_44, ab_e65_45, ab_e65_46, ab_e65_49, ab_e65_52, ab_e65_53, ab_e65_55, ab_e65_56, ab_e65_59, ab_e65_60, ab_e65_61, ab_e65_62, ab_e65_65, ab_e65_68, ab_e65_69, ab_e65_70, ab_e65_72, ab_e65_73, ab_e65_75, ab_e65_76, ab_e65_77, ab_e65_78, ab_e65_79, ab_e65_81, ab_e65_82, ab_e65_84, ab_e65_85, ab_e65_86, ab_e65_89, ab_e65_90, ab_e65_91, ab_e65_93, bb_e65_94, bb_e65_95, ab_e65_96, ab_e65_99, ab_e65_100, ab_e65_103, ab_e65_105, ab_e65_106, ab_e65_107, ab_e65_108, ab_e65_109, ab_e65_110, ab_e65_111, ab_e65_112, ab_e65_115, ab_br_t, ab_br_f, ab_re_v (ab_zz _), ab_re_n (ab_zz _)]
  · rename_i hh
    have hm := bb_at_n hh
    have hb9 := bb_WS_W hw hm.1.1 hm.1.2
    have hn := bb_WB_n hb9
    have b0 := hm.1.1
    have b6 : b < 6 := by omega
    have hI := bb_WS_IR hw hm.1.1 hm.1.2
    have hal := ab_rall_rg hI
    have hwr := ab_rwr_rg (D 501) b p
    have hsl := bb_sl_rg (D 501) b p
    split at h
    · rename_i h1
      cases h
      by_cases h2 : 0 ≤ p ∧ p ≤ ab_rall (D 501) b - 1
      · have h3 : ab_rwr (D 501) b p = 0 := by omega
        simp (discharger := first | assumption | exact True.intro | exact not_false | (refine ab_gK ?_; with_unfolding_all rfl) | exact ab_rgI (by omega) (by omega) | omega) only [ab_a65, bb_y152, ab_y104 b0 b6 hI, ab_y97, ab_y141 b0 b6 hI, bb_y130 hw b0 hm.1.2, bb_y155n hw hb hh, if_pos h2, ab_e65_0, ab_e65_1, ab_e65_2, ab_e65_3, ab_e65_6, ab_e65_9, ab_e65_10, ab_e65_11, ab_e65_12, ab_e65_13, ab_e65_14, ab_e65_15, ab_e65_18, ab_e65_19, ab_e65_20, ab_e65_23, ab_e65_26, ab_e65_27, ab_e65_28, ab_e65_29, ab_e65_32, ab_e65_35, ab_e65_36, ab_e65_38, ab_e65_39, ab_e65_42, ab_e65_43, ab_e65_44, ab_e65_45, ab_e65_46, ab_e65_49, ab_e65_52, ab_e65_53, ab_e65_55, ab_e65_56, ab_e65_59, ab_e65_60, ab_e65_61, ab_e65_62, ab_e65_65, ab_e65_68, ab_e65_69, ab_e65_70, ab_e65_72, ab_e65_73, ab_e65_75, ab_e65_76, ab_e65_77, ab_e65_78, ab_e65_79, ab_e65_81, ab_e65_82, ab_e65_84, ab_e65_85, ab_e65_86, ab_e65_89, ab_e65_90, ab_e65_91, ab_e65_93, bb_e65_94, bb_e65_95, ab_e65_96, ab_e65_99, ab_e65_100, ab_e65_103, ab_e65_105, ab_e65_106, ab_e65_107, ab_e65_108, ab_e65_109, ab_e65_110, ab_e65_111, ab_e65_112, ab_e65_115, ab_br_t, ab_br_f, ab_re_v (ab_zz _), ab_re_n (ab_zz _)]
      · skip
        simp (discharger := first | assumption | exact True.intro | exact not_false | (refine ab_gK ?_; with_unfolding_all rfl) | exact ab_rgI (by omega) (by omega) | omega) only [ab_a65, bb_y152, ab_y104 b0 b6 hI, ab_y97, ab_y141 b0 b6 hI, bb_y130 hw b0 hm.1.2, bb_y155n hw hb hh, if_neg h2, ab_e65_0, ab_e65_1, ab_e65_2, ab_e65_3, ab_e65_6, ab_e65_9, ab_e65_10, ab_e65_11, ab_e65_12, ab_e65_13, ab_e65_14, ab_e65_15, ab_e65_18, ab_e65_19, ab_e65_20, ab_e65_23, ab_e65_26, ab_e65_27, ab_e65_28, ab_e65_29, ab_e65_32, ab_e65_35, ab_e65_36, ab_e65_38, ab_e65_39, ab_e65_42, ab_e65_43, ab_e65_44, ab_e65_45, ab_e65_46, ab_e65_49, ab_e65_52, ab_e65_53, ab_e65_55, ab_e65_56, ab_e65_59, ab_e65_60, ab_e65_61, ab_e65_62, ab_e65_65, ab_e65_68, ab_e65_69, ab_e65_70, ab_e65_72, ab_e65_73, ab_e65_75, ab_e65_76, ab_e65_77, ab_e65_78, ab_e65_79, ab_e65_81, ab_e65_82, ab_e65_84, ab_e65_85, ab_e65_86, ab_e65_89, ab_e65_90, ab_e65_91, ab_e65_93, bb_e65_94, bb_e65_95, ab_e65_96, ab_e65_99, ab_e65_100, ab_e65_103, ab_e65_105, ab_e65_106, ab_e65_107, ab_e65_108, ab_e65_109, ab_e65_110, ab_e65_111, ab_e65_112, ab_e65_115, ab_br_t, ab_br_f, ab_re_v (ab_zz _), ab_re_n (ab_zz _)]
    · rename_i h1
      have h1 := Decidable.not_not.mp h1
      have h2 : 0 ≤ p ∧ p ≤ ab_rall (D 501) b - 1 := by omega
      split at h
      · rename_i h3
        cases h
        simp (discharger := first | assumption | exact True.intro | exact not_false | (refine ab_gK ?_; with_unfolding_all rfl) | exact ab_rgI (by omega) (by omega) | omega) only [ab_a65, bb_y152, ab_y104 b0 b6 hI, ab_y97, ab_y141 b0 b6 hI, bb_y130 hw b0 hm.1.2, bb_y155n hw hb hh, if_pos h2, ab_e65_0, ab_e65_1, ab_e65_2, ab_e65_3, ab_e65_6, ab_e65_9, ab_e65_10, ab_e65_11, ab_e65_12, ab_e65_13, ab_e65_14, ab_e65_15, ab_e65_18, ab_e65_19, ab_e65_20, ab_e65_23, ab_e65_26, ab_e65_27, ab_e65_28, ab_e65_29, ab_e65_32, ab_e65_35, ab_e65_36, ab_e65_38, ab_e65_39, ab_e65_42, ab_e65_43, ab_e65_44, ab_e65_45, ab_e65_46, ab_e65_49, ab_e65_52, ab_e65_53, ab_e65_55, ab_e65_56, ab_e65_59, ab_e65_60, ab_e65_61, ab_e65_62, ab_e65_65, ab_e65_68, ab_e65_69, ab_e65_70, ab_e65_72, ab_e65_73, ab_e65_75, ab_e65_76, ab_e65_77, ab_e65_78, ab_e65_79, ab_e65_81, ab_e65_82, ab_e65_84, ab_e65_85, ab_e65_86, ab_e65_89, ab_e65_90, ab_e65_91, ab_e65_93, bb_e65_94, bb_e65_95, ab_e65_96, ab_e65_99, ab_e65_100, ab_e65_103, ab_e65_105, ab_e65_106, ab_e65_107, ab_e65_108, ab_e65_109, ab_e65_110, ab_e65_111, ab_e65_112, ab_e65_115, ab_br_t, ab_br_f, ab_re_v (ab_zz _), ab_re_n (ab_zz _)]
      · exact absurd h Sum.inr_ne_inl

theorem bb_ok65 {K : ab_Kt} {D : Nat → Int → Int} {L : Nat → Int → Int64} {z : ab_Z} {c : Int} (hw : bb_WS c (D 501)) (hk9 : bb_HK D) {b p : Int} (hc9 : c + 1200 ≤ 50000000) (hb : ab_rg b) (hp : ab_rg p) {v : Int} {g' : Int → Int} (h : bb_sp_slip (D 501) b p = .inr (v, g')) : ab_cal K 65 [.ref 500, .int (ab_I b), .int (ab_I p)] (ab_mk D L z) = some (.inl (some (.int (ab_I v))), ab_mk (bb_row (bb_keep D 501) 501 g') L z) := by
  have n := bb_WS_n hw
  unfold bb_sp_slip at h
  split at h
  · rename_i x hh
    cases h
  · rename_i hh
    have hm := bb_at_n hh
    have hb9 := bb_WS_W hw hm.1.1 hm.1.2
    have hn := bb_WB_n hb9
    have b0 := hm.1.1
    have b6 : b < 6 := by omega
    have hI := bb_WS_IR hw hm.1.1 hm.1.2
    have hal := ab_rall_rg hI
    have hwr := ab_rwr_rg (D 501) b p
    have hsl := bb_sl_rg (D 501) b p
    split at h
    · cases h
    · rename_i h1
      have h1 := Decidable.not_not.mp h1
      have h2 : 0 ≤ p ∧ p ≤ ab_rall (D 501) b - 1 := by omega
      split at h
      · cases h
      · rename_i h3
        obtain ⟨hv, hg⟩ := Prod.mk.inj (Sum.inr.inj h)
        have hwl := bb_WB_l hb9 (j := p / 24) (by omega) (by omega)
        have hw2 := bb_W_gs hw hc9 b0 hm.1.2 h1.1.1 (show p < 192 by omega)
        have hss := bb_y150 (K := K) (D := bb_row (bb_keep D 501) 501 (bb_gs (D 501) b p)) (L := L) (z := z) (c := c + 1200) (by rw [bb_row_eq]; exact hw2) b0 (by rw [bb_row_eq]; unfold bb_gs; rw [bb_g1_ne (by omega), bb_g1_ne (by omega)]; exact hm.1.2)
        rw [bb_row_eq] at hss
        rw [← hv, ← hg]
        unfold bb_gs at hss ⊢
        simp (discharger := first | assumption | exact True.intro | exact not_false | (refine ab_gK ?_; with_unfolding_all rfl) | exact ab_rgI (by omega) (by omega) | omega) only [ab_a65, bb_y152, ab_y104 b0 b6 hI, ab_y97, ab_y141 b0 b6 hI, bb_y130 hw b0 hm.1.2, bb_y155n hw hb hh, if_pos h2, ab_y110, ab_y157, bb_g1_ne, hss, bb_keep_501, bb_row_eq, bb_row_row, bb_u_row, bb_y117 (.inl rfl) hk9.1 hk9.2, ab_e65_0, ab_e65_1, ab_e65_2, ab_e65_3, ab_e65_6, ab_e65_9, ab_e65_10, ab_e65_11, ab_e65_12, ab_e65_13, ab_e65_14, ab_e65_15, ab_e65_18, ab_e65_19, ab_e65_20, ab_e65_23, ab_e65_26, ab_e65_27, ab_e65_28, ab_e65_29, ab_e65_32, ab_e65_35, ab_e65_36, ab_e65_38, ab_e65_39, ab_e65_42, ab_e65_43, ab_e65_44, ab_e65_45, ab_e65_46, ab_e65_49, ab_e65_52, ab_e65_53, ab_e65_55, ab_e65_56, ab_e65_59, ab_e65_60, ab_e65_61, ab_e65_62, ab_e65_65, ab_e65_68, ab_e65_69, ab_e65_70, ab_e65_72, ab_e65_73, ab_e65_75, ab_e65_76, ab_e65_77, ab_e65_78, ab_e65_79, ab_e65_81, ab_e65_82, ab_e65_84, ab_e65_85, ab_e65_86, ab_e65_89, ab_e65_90, ab_e65_91, ab_e65_93, bb_e65_94, bb_e65_95, ab_e65_96, ab_e65_99, ab_e65_100, ab_e65_103, ab_e65_105, ab_e65_106, ab_e65_107, ab_e65_108, ab_e65_109, ab_e65_110, ab_e65_111, ab_e65_112, ab_e65_115, ab_br_t, ab_br_f, ab_re_v (ab_zz _), ab_re_n (ab_zz _)]

