/-! ===== the model's changes are these: delivering, minutes ===== -/
theorem bb_no63 {K : ab_Kt} {D : Nat → Int → Int} {L : Nat → Int → Int64} {z : ab_Z} {c : Int} (hw : bb_WS c (D 501)) {b : Int} (hb : ab_rg b) {r d : Int} (h : bb_sp_deliver (D 501) b = .inl (r, d)) : ab_cal K 63 [.ref 500, .int (ab_I b)] (ab_mk D L z) = some (.inl (some (.int (ab_I 0))), ab_mk (bb_ref D r d) L z) := by
  have n := bb_WS_n hw
  have hr1 : ab_rg 3 := ab_rgI (by omega) (by omega)
  unfold bb_sp_deliver at h
  split at h
  · rename_i x hh
    cases h
    simp (discharger := first | assumption | exact True.intro | exact not_false | (refine ab_gK ?_; with_unfolding_all rfl) | exact ab_rgI (by omega) (by omega) | omega) only [ab_a63, bb_y155s hw hb hr1 hh, ab_e63_0, ab_e63_1, ab_e63_2, ab_e63_3, ab_e63_6, ab_e63_9, ab_e63_10, ab_e63_11, ab_e63_12, ab_e63_13, ab_e63_16, ab_e63_19, ab_e63_20, ab_e63_22, ab_e63_23, ab_e63_24, ab_e63_27, ab_e63_30, ab_e63_31, ab_e63_32, ab_e63_33, ab_e63_36, ab_e63_37, ab_e63_38, ab_e63_39, ab_e63_42, ab_e63_43, ab_e63_44, ab_e63_47, ab_e63_48, ab_e63_50, ab_e63_51, ab_e63_52, ab_e63_55, ab_e63_56, ab_e63_57, ab_e63_58, ab_e63_61, ab_e63_62, ab_e63_63, ab_e63_64, ab_e63_67, ab_e63_70, ab_e63_71, ab_e63_72, ab_e63_75, ab_e63_76, ab_e63_77, ab_e63_80, ab_e63_81, ab_e63_83, ab_e63_84, ab_e63_85, ab_e63_86, ab_e63_89, ab_e63_90, ab_e63_91, ab_e63_92, ab_e63_93, ab_e63_94, ab_e63_95, ab_e63_96, ab_e63_97, ab_e63_98, ab_e63_101, ab_e63_103, ab_e63_104, ab_e63_105, ab_e63_106, ab_e63_107, ab_e63_108, ab_e63_109, ab_e63_110, ab_e63_111, ab_e63_112, ab_e63_115, ab_e63_116, ab_br_t, ab_br_f, ab_re_v (ab_zz _), ab_re_n (ab_zz _)]
  · rename_i hh
    have hm := bb_at_n hh
    have hb9 := bb_WS_W hw hm.1.1 hm.1.2
    have hn := bb_WB_n hb9
    have b0 := hm.1.1
    have b6 : b < 6 := by omega
    have hI := bb_WS_IR hw hm.1.1 hm.1.2
    have hws : -1 ≤ bb_ws (D 501) b ∧ bb_ws (D 501) b ≤ 192 := by
      have hal := ab_rall_rg hI
      have := ab_ff_rg (g := bb_wsF (D 501) b) hal.1
      have e : bb_ws (D 501) b = ab_ff (bb_wsF (D 501) b) (ab_rall (D 501) b) := rfl
      omega
    have hmi := ab_rmiss_rg hI
    split at h
    · rename_i h1
      cases h
      simp (discharger := first | assumption | exact True.intro | exact not_false | (refine ab_gK ?_; with_unfolding_all rfl) | exact ab_rgI (by omega) (by omega) | omega) only [ab_a63, bb_y152, bb_y156 hw b0 hm.1.2, ab_y139 b0 b6 hI, bb_y155n hw hb hh, ab_e63_0, ab_e63_1, ab_e63_2, ab_e63_3, ab_e63_6, ab_e63_9, ab_e63_10, ab_e63_11, ab_e63_12, ab_e63_13, ab_e63_16, ab_e63_19, ab_e63_20, ab_e63_22, ab_e63_23, ab_e63_24, ab_e63_27, ab_e63_30, ab_e63_31, ab_e63_32, ab_e63_33, ab_e63_36, ab_e63_37, ab_e63_38, ab_e63_39, ab_e63_42, ab_e63_43, ab_e63_44, ab_e63_47, ab_e63_48, ab_e63_50, ab_e63_51, ab_e63_52, ab_e63_55, ab_e63_56, ab_e63_57, ab_e63_58, ab_e63_61, ab_e63_62, ab_e63_63, ab_e63_64, ab_e63_67, ab_e63_70, ab_e63_71, ab_e63_72, ab_e63_75, ab_e63_76, ab_e63_77, ab_e63_80, ab_e63_81, ab_e63_83, ab_e63_84, ab_e63_85, ab_e63_86, ab_e63_89, ab_e63_90, ab_e63_91, ab_e63_92, ab_e63_93, ab_e63_94, ab_e63_95, ab_e63_96, ab_e63_97, ab_e63_98, ab_e63_101, ab_e63_103, ab_e63_104, ab_e63_105, ab_e63_106, ab_e63_107, ab_e63_108, ab_e63_109, ab_e63_110, ab_e63_111, ab_e63_112, ab_e63_115, ab_e63_116, ab_br_t, ab_br_f, ab_re_v (ab_zz _), ab_re_n (ab_zz _)]
    · rename_i h1
      split at h
      · rename_i h3
        cases h
        simp (discharger := first | assumption | exact True.intro | exact not_false | (refine ab_gK ?_; with_unfolding_all rfl) | exact ab_rgI (by omega) (by omega) | omega) only [ab_a63, bb_y152, bb_y156 hw b0 hm.1.2, ab_y139 b0 b6 hI, bb_y155n hw hb hh, ab_e63_0, ab_e63_1, ab_e63_2, ab_e63_3, ab_e63_6, ab_e63_9, ab_e63_10, ab_e63_11, ab_e63_12, ab_e63_13, ab_e63_16, ab_e63_19, ab_e63_20, ab_e63_22, ab_e63_23, ab_e63_24, ab_e63_27, ab_e63_30, ab_e63_31, ab_e63_32, ab_e63_33, ab_e63_36, ab_e63_37, ab_e63_38, ab_e63_39, ab_e63_42, ab_e63_43, ab_e63_44, ab_e63_47, ab_e63_48, ab_e63_50, ab_e63_51, ab_e63_52, ab_e63_55, ab_e63_56, ab_e63_57, ab_e63_58, ab_e63_61, ab_e63_62, ab_e63_63, ab_e63_64, ab_e63_67, ab_e63_70, ab_e63_71, ab_e63_72, ab_e63_75, ab_e63_76, ab_e63_77, ab_e63_80, ab_e63_81, ab_e63_83, ab_e63_84, ab_e63_85, ab_e63_86, ab_e63_89, ab_e63_90, ab_e63_91, ab_e63_92, ab_e63_93, ab_e63_94, ab_e63_95, ab_e63_96, ab_e63_97, ab_e63_98, ab_e63_101, ab_e63_103, ab_e63_104, ab_e63_105, ab_e63_106, ab_e63_107, ab_e63_108, ab_e63_109, ab_e63_110, ab_e63_111, ab_e63_112, ab_e63_115, ab_e63_116, ab_br_t, ab_br_f, ab_re_v (ab_zz _), ab_re_n (ab_zz _)]
      · cases h

theorem bb_ok63 {K : ab_Kt} {D : Nat → Int → Int} {L : Nat → Int → Int64} {z : ab_Z} {c : Int} (hw : bb_WS c (D 501)) (hk9 : bb_HK D) {b : Int} (hb : ab_rg b) {v : Int} {g' : Int → Int} (h : bb_sp_deliver (D 501) b = .inr (v, g')) : ab_cal K 63 [.ref 500, .int (ab_I b)] (ab_mk D L z) = some (.inl (some (.int (ab_I v))), ab_mk (bb_row (bb_keep D 501) 501 g') L z) := by
  have n := bb_WS_n hw
  unfold bb_sp_deliver at h
  split at h
  · rename_i x hh
    cases h
  · rename_i hh
    have hm := bb_at_n hh
    have hb9 := bb_WS_W hw hm.1.1 hm.1.2
    have hn := bb_WB_n hb9
    have b0 := hm.1.1
    have b6 : b < 6 := by omega
    have hI := bb_WS_IR hw hm.1.1 hm.1.2
    have hws : -1 ≤ bb_ws (D 501) b ∧ bb_ws (D 501) b ≤ 192 := by
      have hal := ab_rall_rg hI
      have := ab_ff_rg (g := bb_wsF (D 501) b) hal.1
      have e : bb_ws (D 501) b = ab_ff (bb_wsF (D 501) b) (ab_rall (D 501) b) := rfl
      omega
    have hmi := ab_rmiss_rg hI
    split at h
    · cases h
    · rename_i h1
      split at h
      · cases h
      · rename_i h3
        obtain ⟨hv, hg⟩ := Prod.mk.inj (Sum.inr.inj h)
        have hp := ab_y104 (K := K) (D := bb_keep D 501) (L := L) (z := z) b0 b6 (by rw [bb_keep_501]; exact hI)
        have hq := ab_y105 (K := K) (D := bb_keep D 501) (L := L) (z := z) b0 b6 (by rw [bb_keep_501]; exact hI)
        rw [bb_keep_501] at hp hq
        have hal := ab_rall_rg hI
        have hwr := ab_rwrong_rg hI
        rw [← hv, ← hg]
        unfold bb_br
        simp (discharger := first | assumption | exact True.intro | exact not_false | (refine ab_gK ?_; with_unfolding_all rfl) | exact ab_rgI (by omega) (by omega) | omega) only [ab_a63, bb_y152, bb_y156 hw b0 hm.1.2, ab_y139 b0 b6 hI, bb_y155n hw hb hh, hp, hq, ab_y157, bb_g1_ne, bb_keep_501, bb_row_eq, bb_row_row, bb_u_row, bb_y117 (.inl rfl) hk9.1 hk9.2, ab_e63_0, ab_e63_1, ab_e63_2, ab_e63_3, ab_e63_6, ab_e63_9, ab_e63_10, ab_e63_11, ab_e63_12, ab_e63_13, ab_e63_16, ab_e63_19, ab_e63_20, ab_e63_22, ab_e63_23, ab_e63_24, ab_e63_27, ab_e63_30, ab_e63_31, ab_e63_32, ab_e63_33, ab_e63_36, ab_e63_37, ab_e63_38, ab_e63_39, ab_e63_42, ab_e63_43, ab_e63_44, ab_e63_47, ab_e63_48, ab_e63_50, ab_e63_51, ab_e63_52, ab_e63_55, ab_e63_56, ab_e63_57, ab_e63_58, ab_e63_61, ab_e63_62, ab_e63_63, ab_e63_64, ab_e63_67, ab_e63_70, ab_e63_71, ab_e63_72, ab_e63_75, ab_e63_76, ab_e63_77, ab_e63_80, ab_e63_81, ab_e63_83, ab_e63_84, ab_e63_85, ab_e63_86, ab_e63_89, ab_e63_90, ab_e63_91, ab_e63_92, ab_e63_93, ab_e63_94, ab_e63_95, ab_e63_96, ab_e63_97, ab_e63_98, ab_e63_101, ab_e63_103, ab_e63_104, ab_e63_105, ab_e63_106, ab_e63_107, ab_e63_108, ab_e63_109, ab_e63_110, ab_e63_111, ab_e63_112, ab_e63_115, ab_e63_116, ab_br_t, ab_br_f, ab_re_v (ab_zz _), ab_re_n (ab_zz _)]

theorem bb_l153 {K : ab_Kt} {D : Nat → Int → Int} {L : Nat → Int → Int64} {z : ab_Z} {c : Int} {h : Int → Int} (hw : bb_WS c h) (k : Nat) (n : Int) (hk : (k : Int) ≤ h 3) (hD : D 501 = (bb_mN h k).2) (hn : n = (bb_mN h k).1) : ab_ev K 153 14 [some (.ref 500), some (.int (ab_I n)), some (.int (ab_I k))] [] (ab_mk D L z) = some (.inl (some (.int (ab_I ((bb_mN h (h 3).toNat).1)))), ab_mk (bb_row D 501 (bb_mN h (h 3).toNat).2) L z) := by
  obtain ⟨i1, i2, i3⟩ := bb_W_mN hw k hk
  rw [← hD] at i1 i2 i3
  have m := bb_WS_n i1
  have e3 : D 501 3 = h 3 := i2
  rw [ab_e153_14]
  by_cases hx : h 3 ≤ k
  · simp (discharger := first | assumption | exact True.intro | exact not_false | (refine ab_gK ?_; with_unfolding_all rfl) | exact ab_rgI (by omega) (by omega) | omega) only [ab_e153_0, ab_e153_1, ab_e153_2, ab_e153_3, ab_e153_6, ab_e153_7, ab_e153_8, ab_e153_9, ab_e153_10, ab_e153_11, ab_e153_12, ab_e153_13, ab_e153_15, ab_e153_16, ab_e153_19, ab_e153_20, ab_e153_21, ab_e153_24, ab_e153_25, ab_e153_26, ab_e153_27, ab_e153_30, ab_e153_31, ab_e153_34, ab_e153_35, ab_e153_36, ab_e153_39, ab_e153_42, ab_e153_45, ab_e153_48, ab_e153_49, ab_e153_52, ab_e153_53, ab_e153_54, ab_e153_55, ab_e153_56, ab_e153_57, ab_e153_58, ab_e153_61, ab_e153_62, ab_e153_63, ab_e153_64, ab_e153_65, ab_e153_66, ab_e153_67, ab_e153_70, ab_e153_71, ab_e153_72, ab_e153_73, ab_e153_74, ab_e153_77, ab_e153_78, ab_e153_79, ab_e153_80, ab_e153_81, ab_e153_84, ab_e153_85, ab_e153_86, ab_e153_88, ab_e153_89, ab_e153_92, ab_e153_95, ab_e153_98, ab_e153_99, ab_br_t, ab_br_f, ab_re_v (ab_zz _), ab_re_n (ab_zz _)]
    have ek : (h 3).toNat = k := by omega
    rw [ek, ← hD, bb_row_self, hn]
  · have k0 : (0 : Int) ≤ k := by omega
    have k1 : (k : Int) < D 501 3 := by omega
    have k6 : (k : Int) < 6 := by omega
    have hI := bb_WS_IR i1 k0 k1
    have hb := bb_WB_n (bb_WS_W i1 k0 k1)
    have hnd : 0 ≤ ab_rneed (D 501) k ∧ ab_rneed (D 501) k ≤ 30 := bb_nd_rg (bb_WS_W i1 k0 k1) m.2.2.1.1
    have hq : (bb_mN h (k + 1)).2 = bb_mq (D 501) k := by rw [hD]; rfl
    have hc : (bb_mN h (k + 1)).1 = n + bb_mc (D 501) k := by rw [hD, hn]; rfl
    have e2 : ab_rneed (D 501) k = bb_nd (D 501) k (D 501 0) := rfl
    by_cases hl : bb_R (D 501) k 2 = 1 ∧ bb_nd (D 501) k (D 501 0) = 0
    · have hq2 := hq
      unfold bb_mq at hq2
      rw [if_pos hl] at hq2
      unfold bb_mc at hc
      rw [if_pos hl] at hc
      have ih := bb_l153 (K := K) (D := bb_row D 501 (bb_mq (D 501) k)) (L := L) (z := z) hw (k + 1) (n + 1) (by omega) (by rw [bb_row_eq, hq]) hc.symm
      rw [bb_row_row] at ih
      have eq : bb_mq (D 501) k = bb_g1 (bb_g1 (bb_g1 (bb_g1 (bb_g1 (D 501) 5 (D 501 5 + bb_R (D 501) k 4)) (16 + 51 * (k : Int) + 4) 0) (16 + 51 * (k : Int) + 2) 0) (16 + 51 * (k : Int) + 5) (-1)) (16 + 51 * (k : Int) + 6) 0 := if_pos hl
      rw [eq] at ih
      simp (discharger := first | assumption | exact True.intro | exact not_false | (refine ab_gK ?_; with_unfolding_all rfl) | exact ab_rgI (by omega) (by omega) | omega) only [ab_y110, ab_y125 k0 k6 hI, ab_y157, bb_row_eq, bb_row_row, bb_u_row, ab_e153_0, ab_e153_1, ab_e153_2, ab_e153_3, ab_e153_6, ab_e153_7, ab_e153_8, ab_e153_9, ab_e153_10, ab_e153_11, ab_e153_12, ab_e153_13, ab_e153_15, ab_e153_16, ab_e153_19, ab_e153_20, ab_e153_21, ab_e153_24, ab_e153_25, ab_e153_26, ab_e153_27, ab_e153_30, ab_e153_31, ab_e153_34, ab_e153_35, ab_e153_36, ab_e153_39, ab_e153_42, ab_e153_45, ab_e153_48, ab_e153_49, ab_e153_52, ab_e153_53, ab_e153_54, ab_e153_55, ab_e153_56, ab_e153_57, ab_e153_58, ab_e153_61, ab_e153_62, ab_e153_63, ab_e153_64, ab_e153_65, ab_e153_66, ab_e153_67, ab_e153_70, ab_e153_71, ab_e153_72, ab_e153_73, ab_e153_74, ab_e153_77, ab_e153_78, ab_e153_79, ab_e153_80, ab_e153_81, ab_e153_84, ab_e153_85, ab_e153_86, ab_e153_88, ab_e153_89, ab_e153_92, ab_e153_95, ab_e153_98, ab_e153_99, ab_br_t, ab_br_f, ab_re_v (ab_zz _), ab_re_n (ab_zz _)]
      exact ih
    · have hq2 := hq
      unfold bb_mq at hq2
      rw [if_neg hl] at hq2
      unfold bb_mc at hc
      rw [if_neg hl, Int.add_zero] at hc
      have ih := bb_l153 (K := K) (D := D) (L := L) (z := z) hw (k + 1) n (by omega) hq2.symm hc.symm
      by_cases h2 : bb_R (D 501) k 2 = 1
      · have h4 : 0 < ab_rneed (D 501) k := by
          have : bb_nd (D 501) k (D 501 0) ≠ 0 := fun x => hl ⟨h2, x⟩
          omega
        simp (discharger := first | assumption | exact True.intro | exact not_false | (refine ab_gK ?_; with_unfolding_all rfl) | exact ab_rgI (by omega) (by omega) | omega) only [ab_y110, ab_y125 k0 k6 hI, ab_e153_0, ab_e153_1, ab_e153_2, ab_e153_3, ab_e153_6, ab_e153_7, ab_e153_8, ab_e153_9, ab_e153_10, ab_e153_11, ab_e153_12, ab_e153_13, ab_e153_15, ab_e153_16, ab_e153_19, ab_e153_20, ab_e153_21, ab_e153_24, ab_e153_25, ab_e153_26, ab_e153_27, ab_e153_30, ab_e153_31, ab_e153_34, ab_e153_35, ab_e153_36, ab_e153_39, ab_e153_42, ab_e153_45, ab_e153_48, ab_e153_49, ab_e153_52, ab_e153_53, ab_e153_54, ab_e153_55, ab_e153_56, ab_e153_57, ab_e153_58, ab_e153_61, ab_e153_62, ab_e153_63, ab_e153_64, ab_e153_65, ab_e153_66, ab_e153_67, ab_e153_70, ab_e153_71, ab_e153_72, ab_e153_73, ab_e153_74, ab_e153_77, ab_e153_78, ab_e153_79, ab_e153_80, ab_e153_81, ab_e153_84, ab_e153_85, ab_e153_86, ab_e153_88, ab_e153_89, ab_e153_92, ab_e153_95, ab_e153_98, ab_e153_99, ab_br_t, ab_br_f, ab_re_v (ab_zz _), ab_re_n (ab_zz _)]
        exact ih
      · skip
        simp (discharger := first | assumption | exact True.intro | exact not_false | (refine ab_gK ?_; with_unfolding_all rfl) | exact ab_rgI (by omega) (by omega) | omega) only [ab_y110, ab_y125 k0 k6 hI, ab_e153_0, ab_e153_1, ab_e153_2, ab_e153_3, ab_e153_6, ab_e153_7, ab_e153_8, ab_e153_9, ab_e153_10, ab_e153_11, ab_e153_12, ab_e153_13, ab_e153_15, ab_e153_16, ab_e153_19, ab_e153_20, ab_e153_21, ab_e153_24, ab_e153_25, ab_e153_26, ab_e153_27, ab_e153_30, ab_e153_31, ab_e153_34, ab_e153_35, ab_e153_36, ab_e153_39, ab_e153_42, ab_e153_45, ab_e153_48, ab_e153_49, ab_e153_52, ab_e153_53, ab_e153_54, ab_e153_55, ab_e153_56, ab_e153_57, ab_e153_58, ab_e153_61, ab_e153_62, ab_e153_63, ab_e153_64, ab_e153_65, ab_e153_66, ab_e153_67, ab_e153_70, ab_e153_71, ab_e153_72, ab_e153_73, ab_e153_74, ab_e153_77, ab_e153_78, ab_e153_79, ab_e153_80, ab_e153_81, ab_e153_84, ab_e153_85, ab_e153_86, ab_e153_88, ab_e153_89, ab_e153_92, ab_e153_95, ab_e153_98, ab_e153_99, ab_br_t, ab_br_f, ab_re_v (ab_zz _), ab_re_n (ab_zz _)]
        exact ih
termination_by (h 3).toNat - k
decreasing_by all_goals omega

theorem bb_y153 {K : ab_Kt} {D : Nat → Int → Int} {L : Nat → Int → Int64} {z : ab_Z} {c : Int} (hw : bb_WS c (D 501)) (hc : c + 1 ≤ 50000000) : ab_cal K 153 [.ref 500] (ab_mk D L z) = some (.inl (some (.int (ab_I ((bb_m1 (D 501)).1)))), ab_mk (bb_row D 501 (bb_m1 (D 501)).2) L z) := by
  have m := bb_WS_n hw
  have e3 : bb_g1 (D 501) 0 (D 501 0 + 1) 3 = D 501 3 := bb_g1_ne (by omega)
  have ih := bb_l153 (K := K) (D := bb_row D 501 (bb_g1 (D 501) 0 (D 501 0 + 1))) (L := L) (z := z) (bb_W_g0 hw hc) 0 0 (by rw [e3]; omega) bb_row_eq rfl
  rw [bb_row_row, e3] at ih
  simp (discharger := first | assumption | exact True.intro | exact not_false | (refine ab_gK ?_; with_unfolding_all rfl) | exact ab_rgI (by omega) (by omega) | omega) only [ab_a153, bb_u_row, ab_e153_0, ab_e153_1, ab_e153_2, ab_e153_3, ab_e153_6, ab_e153_7, ab_e153_8, ab_e153_9, ab_e153_10, ab_e153_11, ab_e153_12, ab_e153_13, ab_e153_15, ab_e153_16, ab_e153_19, ab_e153_20, ab_e153_21, ab_e153_24, ab_e153_25, ab_e153_26, ab_e153_27, ab_e153_30, ab_e153_31, ab_e153_34, ab_e153_35, ab_e153_36, ab_e153_39, ab_e153_42, ab_e153_45, ab_e153_48, ab_e153_49, ab_e153_52, ab_e153_53, ab_e153_54, ab_e153_55, ab_e153_56, ab_e153_57, ab_e153_58, ab_e153_61, ab_e153_62, ab_e153_63, ab_e153_64, ab_e153_65, ab_e153_66, ab_e153_67, ab_e153_70, ab_e153_71, ab_e153_72, ab_e153_73, ab_e153_74, ab_e153_77, ab_e153_78, ab_e153_79, ab_e153_80, ab_e153_81, ab_e153_84, ab_e153_85, ab_e153_86, ab_e153_88, ab_e153_89, ab_e153_92, ab_e153_95, ab_e153_98, ab_e153_99, ab_br_t, ab_br_f, ab_re_v (ab_zz _), ab_re_n (ab_zz _)]
  exact ih

theorem bb_l61 {K : ab_Kt} {D : Nat → Int → Int} {L : Nat → Int → Int64} {z : ab_Z} {c m : Int} {g : Int → Int} (hw : bb_WS c g) (m1 : m ≤ 60) (hc : c + 1200 ≤ 50000000) (k : Nat) (n : Int) (hk : (k : Int) ≤ m) (hD : D 501 = (bb_pN g k).2) (hn : n = (bb_pN g k).1) : ab_ev K 61 29 [some (.ref 500), some (.int (ab_I m)), some (.int (ab_I n)), some (.int (ab_I k))] [] (ab_mk D L z) = some (.inl (some (.int (ab_I ((bb_pN g m.toNat).1)))), ab_mk (bb_row D 501 (bb_pN g m.toNat).2) L z) := by
  rw [ab_e61_29]
  by_cases hx : m ≤ k
  · simp (discharger := first | assumption | exact True.intro | exact not_false | (refine ab_gK ?_; with_unfolding_all rfl) | exact ab_rgI (by omega) (by omega) | omega) only [ab_e61_0, ab_e61_1, ab_e61_2, ab_e61_4, ab_e61_7, ab_e61_10, ab_e61_11, ab_e61_12, ab_e61_13, ab_e61_16, ab_e61_17, ab_e61_18, ab_e61_19, ab_e61_22, ab_e61_25, ab_e61_26, ab_e61_27, ab_e61_28, ab_e61_30, ab_e61_31, ab_e61_34, ab_e61_35, ab_e61_36, ab_e61_39, ab_e61_40, ab_e61_41, ab_e61_44, ab_e61_47, ab_e61_48, ab_br_t, ab_br_f, ab_re_v (ab_zz _), ab_re_n (ab_zz _)]
    have ek : m.toNat = k := by omega
    rw [ek, ← hD, bb_row_self, hn]
  · have i1 := (bb_W_pN hw k (by omega)).1
    rw [← hD] at i1
    have ih := bb_l61 (K := K) (D := bb_row D 501 (bb_m1 (D 501)).2) (L := L) (z := z) hw m1 hc (k + 1) (n + (bb_m1 (D 501)).1) (by omega) (by rw [bb_row_eq, hD]; rfl) (by rw [hD, hn]; rfl)
    rw [bb_row_row] at ih
    simp (discharger := first | assumption | exact True.intro | exact not_false | (refine ab_gK ?_; with_unfolding_all rfl) | exact ab_rgI (by omega) (by omega) | omega) only [bb_y153 i1 (by omega), ab_e61_0, ab_e61_1, ab_e61_2, ab_e61_4, ab_e61_7, ab_e61_10, ab_e61_11, ab_e61_12, ab_e61_13, ab_e61_16, ab_e61_17, ab_e61_18, ab_e61_19, ab_e61_22, ab_e61_25, ab_e61_26, ab_e61_27, ab_e61_28, ab_e61_30, ab_e61_31, ab_e61_34, ab_e61_35, ab_e61_36, ab_e61_39, ab_e61_40, ab_e61_41, ab_e61_44, ab_e61_47, ab_e61_48, ab_br_t, ab_br_f, ab_re_v (ab_zz _), ab_re_n (ab_zz _)]
    exact ih
termination_by m.toNat - k
decreasing_by all_goals omega

theorem bb_no61 {K : ab_Kt} {D : Nat → Int → Int} {L : Nat → Int → Int64} {z : ab_Z} {c : Int} (hw : bb_WS c (D 501)) {m : Int} (hc9 : c + 1200 ≤ 50000000) (hm : ab_rg m) {r d : Int} (h : bb_sp_pass (D 501) m = .inl (r, d)) : ab_cal K 61 [.ref 500, .int (ab_I m)] (ab_mk D L z) = some (.inl (some (.int (ab_I 0))), ab_mk (bb_ref D r d) L z) := by
  have n := bb_WS_n hw
  unfold bb_sp_pass at h
  split at h
  · rename_i h1
    cases h
    simp (discharger := first | assumption | exact True.intro | exact not_false | (refine ab_gK ?_; with_unfolding_all rfl) | exact ab_rgI (by omega) (by omega) | omega) only [ab_a61, ab_y97, bb_y152, if_neg h1, ab_e61_0, ab_e61_1, ab_e61_2, ab_e61_4, ab_e61_7, ab_e61_10, ab_e61_11, ab_e61_12, ab_e61_13, ab_e61_16, ab_e61_17, ab_e61_18, ab_e61_19, ab_e61_22, ab_e61_25, ab_e61_26, ab_e61_27, ab_e61_28, ab_e61_29, ab_e61_30, ab_e61_31, ab_e61_34, ab_e61_35, ab_e61_36, ab_e61_39, ab_e61_40, ab_e61_41, ab_e61_44, ab_e61_47, ab_e61_48, ab_br_t, ab_br_f, ab_re_v (ab_zz _), ab_re_n (ab_zz _)]
  · exact absurd h Sum.inr_ne_inl

theorem bb_ok61 {K : ab_Kt} {D : Nat → Int → Int} {L : Nat → Int → Int64} {z : ab_Z} {c : Int} (hw : bb_WS c (D 501)) (hk9 : bb_HK D) {m : Int} (hc9 : c + 1200 ≤ 50000000) (hm : ab_rg m) {v : Int} {g' : Int → Int} (h : bb_sp_pass (D 501) m = .inr (v, g')) : ab_cal K 61 [.ref 500, .int (ab_I m)] (ab_mk D L z) = some (.inl (some (.int (ab_I v))), ab_mk (bb_row (bb_keep D 501) 501 g') L z) := by
  have n := bb_WS_n hw
  unfold bb_sp_pass at h
  split at h
  · exact absurd h Sum.inl_ne_inr
  · rename_i h1
    have h1 := Decidable.not_not.mp h1
    obtain ⟨hv, hg⟩ := Prod.mk.inj (Sum.inr.inj (h.trans (by rfl) : (Sum.inr ((bb_pN (D 501) m.toNat).1, (bb_pN (D 501) m.toNat).2) : bb_O) = Sum.inr (v, g')))
    rw [← hv, ← hg]
    have ih := bb_l61 (K := K) (D := bb_keep D 501) (L := L) (z := z) hw h1.2 hc9 0 0 (by omega) (by rw [bb_keep_501]; rfl) rfl
    simp (discharger := first | assumption | exact True.intro | exact not_false | (refine ab_gK ?_; with_unfolding_all rfl) | exact ab_rgI (by omega) (by omega) | omega) only [ab_a61, ab_y97, if_pos h1, bb_keep_501, bb_row_eq, bb_row_row, bb_u_row, bb_y117 (.inl rfl) hk9.1 hk9.2, ab_e61_0, ab_e61_1, ab_e61_2, ab_e61_4, ab_e61_7, ab_e61_10, ab_e61_11, ab_e61_12, ab_e61_13, ab_e61_16, ab_e61_17, ab_e61_18, ab_e61_19, ab_e61_22, ab_e61_25, ab_e61_26, ab_e61_27, ab_e61_28, ab_e61_30, ab_e61_31, ab_e61_34, ab_e61_35, ab_e61_36, ab_e61_39, ab_e61_40, ab_e61_41, ab_e61_44, ab_e61_47, ab_e61_48, ab_br_t, ab_br_f, ab_re_v (ab_zz _), ab_re_n (ab_zz _)]
    exact ih

