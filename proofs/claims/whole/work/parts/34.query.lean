/-! ===== slips, first wrong ones, sums, of both ===== -/
def bb_cs (L : Nat → Int → Int64) (b : Nat) (p : Int) : Int := bb_lb (L (b + 5) (p / 64)) (p % 64)
theorem bb_cs_rg (L : Nat → Int → Int64) (b : Nat) (p : Int) : bb_cs L b p = 0 ∨ bb_cs L b p = 1 := bb_lb_rg _ _
theorem bb_y205 {K : ab_Kt} {D : Nat → Int → Int} {L : Nat → Int → Int64} {z : ab_Z} {b : Nat} (hb : ab_bk b) {p : Int} (p0 : 0 ≤ p) (p1 : p < 192) : ab_cal K 205 [.ref b, .int (ab_I p)] (ab_mk D L z) = some (.inl (some (.int (ab_I (bb_cs L b p)))), (ab_mk D L z)) := by
  have hr := bb_cs_rg L b p
  have hd : bb_cs L b p = bb_lb (L (b + 5) (p / 64)) (p % 64) := rfl
  simp (discharger := first | assumption | exact True.intro | exact not_false | (refine ab_gK ?_; with_unfolding_all rfl) | exact ab_rgI (by omega) (by omega) | omega) only [ab_a205, ab_e205_0, ab_e205_1, ab_e205_3, ab_e205_4, ab_e205_5, ab_e205_6, ab_e205_9, ab_e205_10, ab_e205_11, ab_e205_14, ab_e205_15, ab_e205_16, ab_e205_17, ab_e205_20, ab_e205_21, ab_e205_22, ab_e205_23, ab_e205_25, bb_e205_26, ab_e205_27, bb_e205_28, ab_e205_29, bb_e205_30, ab_e205_31, ab_e205_34, ab_e205_35, ab_e205_38, ab_e205_39, ab_br_t, ab_br_f, ab_re_v (ab_zz _), ab_re_n (ab_zz _)]
  iterate 1 (all_goals (try (refine ab_br_c (fun hc => ?_) (fun hc => ?_) <;> try simp (discharger := first | assumption | exact True.intro | exact not_false | (refine ab_gK ?_; with_unfolding_all rfl) | exact ab_rgI (by omega) (by omega) | omega) only [ab_a205, ab_e205_0, ab_e205_1, ab_e205_3, ab_e205_4, ab_e205_5, ab_e205_6, ab_e205_9, ab_e205_10, ab_e205_11, ab_e205_14, ab_e205_15, ab_e205_16, ab_e205_17, ab_e205_20, ab_e205_21, ab_e205_22, ab_e205_23, ab_e205_25, bb_e205_26, ab_e205_27, bb_e205_28, ab_e205_29, bb_e205_30, ab_e205_31, ab_e205_34, ab_e205_35, ab_e205_38, ab_e205_39, ab_br_t, ab_br_f, ab_re_v (ab_zz _), ab_re_n (ab_zz _)])))
  all_goals exact ab_fin (by omega) rfl

def bb_fw (D : Nat → Int → Int) (L : Nat → Int → Int64) (b : Nat) (w p : Int) : Int := if ab_wr D b p = 1 ∧ ¬ (w = 1 ∧ bb_cs L b p = 1) then 1 else 0
theorem bb_l212i {K : ab_Kt} {D : Nat → Int → Int} {L : Nat → Int → Int64} {z : ab_Z} {b : Nat} (hb : ab_bk b) (hI : ab_IB D b) {w : Int} (hw9 : w = 0 ∨ w = 1) {R : Option (ab_O × ab_H)} (s : Int) (h0 : 0 ≤ s) (h1 : s < D b 3) (hR : ∀ x5 x6 : Option Value, (∀ q, 0 ≤ q → q < ab_S (ab_sz D b) (s + 1) → (bb_fw D L b w) q ≠ 1) → ab_ev K 212 79 [some (.ref b), some (.int (ab_I w)), some (.int (ab_I (ab_S (ab_sz D b) (s + 1)))), some (.int (ab_I s)), some (.int (ab_I (ab_sz D b s))), x5, x6] [] (ab_mk D L z) = R) (hf9 : ∀ q, 0 ≤ q → q < ab_all D b → (bb_fw D L b w) q = 1 → (∀ j, 0 ≤ j → j < q → (bb_fw D L b w) j ≠ 1) → some (.inl (some (.int (ab_I (q)))), (ab_mk D L z)) = R) (i p : Int) (x6 : Option Value) (hi0 : 0 ≤ i) (hi1 : i ≤ ab_sz D b s) (hp : p = ab_S (ab_sz D b) s + i) (hf : ∀ q, 0 ≤ q → q < p → (bb_fw D L b w) q ≠ 1) : ab_ev K 212 22 [some (.ref b), some (.int (ab_I w)), some (.int (ab_I p)), some (.int (ab_I s)), some (.int (ab_I (ab_sz D b s))), some (.int (ab_I i)), x6] [] (ab_mk D L z) = R := by
  have hn := ab_IB_n hI
  have he := ab_IB_e hI h0 h1
  have hS := ab_IB_S hI h0 (by omega)
  have hS1 := ab_IB_S hI (s := s + 1) (by omega) (by omega)
  have hS2 := ab_S1 (ab_sz D b) h0
  have hall : ab_all D b = ab_S (ab_sz D b) (D b 3) := rfl
  have hmo := ab_Smono (f := ab_sz D b) (n := s + 1) (m := D b 3) (by omega) (by omega) (fun i a c => ab_IB_s hI i a c)
  have hal := ab_all_rg hI
  rw [ab_e212_22]
  by_cases hc : ab_sz D b s ≤ i
  · simp (discharger := first | assumption | exact True.intro | exact not_false | (refine ab_gK ?_; with_unfolding_all rfl) | exact ab_rgI (by omega) (by omega) | omega) only [ab_e212_0, ab_e212_1, ab_e212_2, ab_e212_3, ab_e212_5, ab_e212_6, ab_e212_9, ab_e212_12, ab_e212_13, ab_e212_14, ab_e212_17, ab_e212_19, ab_e212_20, ab_e212_24, ab_e212_26, ab_e212_29, ab_e212_30, ab_e212_31, ab_e212_32, ab_e212_33, ab_e212_35, ab_e212_38, ab_e212_41, ab_e212_44, ab_e212_45, ab_e212_48, ab_e212_49, ab_e212_51, ab_e212_53, ab_e212_56, ab_e212_57, ab_e212_60, ab_e212_61, ab_e212_62, ab_e212_65, ab_e212_68, ab_e212_69, ab_e212_70, ab_e212_73, ab_e212_76, ab_e212_82, ab_e212_85, ab_e212_86, ab_br_t, ab_br_f, ab_re_v (ab_zz _), ab_re_n (ab_zz _)]
    rw [show p = ab_S (ab_sz D b) (s + 1) by omega]
    exact hR _ _ (by rw [← show p = ab_S (ab_sz D b) (s + 1) by omega]; exact hf)
  · have hl := ab_lf_rg hI h0 h1 hi0 (by omega)
    have hwr : ab_wr D b p = if ab_lf D b s i = p + 1 ∧ ab_lf D b s i ≤ D b 0 then 0 else 1 := by
      unfold ab_wr
      rw [hp, ab_page_at hI h0 h1 hi0 (by omega)]
    have hcs := bb_cs_rg L b p
    have hFp : bb_fw D L b w p = if ab_wr D b p = 1 ∧ ¬ (w = 1 ∧ bb_cs L b p = 1) then 1 else 0 := rfl
    by_cases hd : ab_wr D b p = 1 ∧ ¬ (w = 1 ∧ bb_cs L b p = 1)
    · rw [if_pos hd] at hFp
      rw [← hf9 p (by omega) (by omega) hFp hf]
      rcases hw9 with rfl | rfl
      · simp (discharger := first | assumption | exact True.intro | exact not_false | (refine ab_gK ?_; with_unfolding_all rfl) | exact ab_rgI (by omega) (by omega) | omega) only [ab_y232, ab_y233, bb_y205, ab_e212_0, ab_e212_1, ab_e212_2, ab_e212_3, ab_e212_5, ab_e212_6, ab_e212_9, ab_e212_12, ab_e212_13, ab_e212_14, ab_e212_17, ab_e212_19, ab_e212_20, ab_e212_24, ab_e212_26, ab_e212_29, ab_e212_30, ab_e212_31, ab_e212_32, ab_e212_33, ab_e212_35, ab_e212_38, ab_e212_41, ab_e212_44, ab_e212_45, ab_e212_48, ab_e212_49, ab_e212_51, ab_e212_53, ab_e212_56, ab_e212_57, ab_e212_60, ab_e212_61, ab_e212_62, ab_e212_65, ab_e212_68, ab_e212_69, ab_e212_70, ab_e212_73, ab_e212_76, ab_e212_82, ab_e212_85, ab_e212_86, ab_br_t, ab_br_f, ab_re_v (ab_zz _), ab_re_n (ab_zz _)]
        iterate 1 (all_goals (try (refine ab_br_c (fun hc => ?_) (fun hc => ?_) <;> try simp (discharger := first | assumption | exact True.intro | exact not_false | (refine ab_gK ?_; with_unfolding_all rfl) | exact ab_rgI (by omega) (by omega) | omega) only [ab_y232, ab_y233, bb_y205, ab_e212_0, ab_e212_1, ab_e212_2, ab_e212_3, ab_e212_5, ab_e212_6, ab_e212_9, ab_e212_12, ab_e212_13, ab_e212_14, ab_e212_17, ab_e212_19, ab_e212_20, ab_e212_24, ab_e212_26, ab_e212_29, ab_e212_30, ab_e212_31, ab_e212_32, ab_e212_33, ab_e212_35, ab_e212_38, ab_e212_41, ab_e212_44, ab_e212_45, ab_e212_48, ab_e212_49, ab_e212_51, ab_e212_53, ab_e212_56, ab_e212_57, ab_e212_60, ab_e212_61, ab_e212_62, ab_e212_65, ab_e212_68, ab_e212_69, ab_e212_70, ab_e212_73, ab_e212_76, ab_e212_82, ab_e212_85, ab_e212_86, ab_br_t, ab_br_f, ab_re_v (ab_zz _), ab_re_n (ab_zz _)])))
        all_goals omega
      · simp (discharger := first | assumption | exact True.intro | exact not_false | (refine ab_gK ?_; with_unfolding_all rfl) | exact ab_rgI (by omega) (by omega) | omega) only [ab_y232, ab_y233, bb_y205, ab_e212_0, ab_e212_1, ab_e212_2, ab_e212_3, ab_e212_5, ab_e212_6, ab_e212_9, ab_e212_12, ab_e212_13, ab_e212_14, ab_e212_17, ab_e212_19, ab_e212_20, ab_e212_24, ab_e212_26, ab_e212_29, ab_e212_30, ab_e212_31, ab_e212_32, ab_e212_33, ab_e212_35, ab_e212_38, ab_e212_41, ab_e212_44, ab_e212_45, ab_e212_48, ab_e212_49, ab_e212_51, ab_e212_53, ab_e212_56, ab_e212_57, ab_e212_60, ab_e212_61, ab_e212_62, ab_e212_65, ab_e212_68, ab_e212_69, ab_e212_70, ab_e212_73, ab_e212_76, ab_e212_82, ab_e212_85, ab_e212_86, ab_br_t, ab_br_f, ab_re_v (ab_zz _), ab_re_n (ab_zz _)]
        iterate 2 (all_goals (try (refine ab_br_c (fun hc => ?_) (fun hc => ?_) <;> try simp (discharger := first | assumption | exact True.intro | exact not_false | (refine ab_gK ?_; with_unfolding_all rfl) | exact ab_rgI (by omega) (by omega) | omega) only [ab_y232, ab_y233, bb_y205, ab_e212_0, ab_e212_1, ab_e212_2, ab_e212_3, ab_e212_5, ab_e212_6, ab_e212_9, ab_e212_12, ab_e212_13, ab_e212_14, ab_e212_17, ab_e212_19, ab_e212_20, ab_e212_24, ab_e212_26, ab_e212_29, ab_e212_30, ab_e212_31, ab_e212_32, ab_e212_33, ab_e212_35, ab_e212_38, ab_e212_41, ab_e212_44, ab_e212_45, ab_e212_48, ab_e212_49, ab_e212_51, ab_e212_53, ab_e212_56, ab_e212_57, ab_e212_60, ab_e212_61, ab_e212_62, ab_e212_65, ab_e212_68, ab_e212_69, ab_e212_70, ab_e212_73, ab_e212_76, ab_e212_82, ab_e212_85, ab_e212_86, ab_br_t, ab_br_f, ab_re_v (ab_zz _), ab_re_n (ab_zz _)])))
        all_goals omega
    · rw [if_neg hd] at hFp
      have hf2 : ∀ q, 0 ≤ q → q < p + 1 → bb_fw D L b w q ≠ 1 := by
        intro q q0 q1
        by_cases hq : q = p
        · rw [hq, hFp]; decide
        · exact hf q q0 (by omega)
      have ih : ∀ x6, ab_ev K 212 22 [some (.ref b), some (.int (ab_I w)), some (.int (ab_I (p + 1))), some (.int (ab_I s)), some (.int (ab_I (ab_sz D b s))), some (.int (ab_I (i + 1))), x6] [] (ab_mk D L z) = R := fun x6 => bb_l212i hb hI hw9 s h0 h1 hR hf9 (i + 1) (p + 1) x6 (by omega) (by omega) (by omega) hf2
      rcases hw9 with rfl | rfl
      · simp (discharger := first | assumption | exact True.intro | exact not_false | (refine ab_gK ?_; with_unfolding_all rfl) | exact ab_rgI (by omega) (by omega) | omega) only [ab_y232, ab_y233, bb_y205, ab_e212_0, ab_e212_1, ab_e212_2, ab_e212_3, ab_e212_5, ab_e212_6, ab_e212_9, ab_e212_12, ab_e212_13, ab_e212_14, ab_e212_17, ab_e212_19, ab_e212_20, ab_e212_24, ab_e212_26, ab_e212_29, ab_e212_30, ab_e212_31, ab_e212_32, ab_e212_33, ab_e212_35, ab_e212_38, ab_e212_41, ab_e212_44, ab_e212_45, ab_e212_48, ab_e212_49, ab_e212_51, ab_e212_53, ab_e212_56, ab_e212_57, ab_e212_60, ab_e212_61, ab_e212_62, ab_e212_65, ab_e212_68, ab_e212_69, ab_e212_70, ab_e212_73, ab_e212_76, ab_e212_82, ab_e212_85, ab_e212_86, ab_br_t, ab_br_f, ab_re_v (ab_zz _), ab_re_n (ab_zz _)]
        iterate 2 (all_goals (try (refine ab_br_c (fun hc => ?_) (fun hc => ?_) <;> try simp (discharger := first | assumption | exact True.intro | exact not_false | (refine ab_gK ?_; with_unfolding_all rfl) | exact ab_rgI (by omega) (by omega) | omega) only [ab_y232, ab_y233, bb_y205, ab_e212_0, ab_e212_1, ab_e212_2, ab_e212_3, ab_e212_5, ab_e212_6, ab_e212_9, ab_e212_12, ab_e212_13, ab_e212_14, ab_e212_17, ab_e212_19, ab_e212_20, ab_e212_24, ab_e212_26, ab_e212_29, ab_e212_30, ab_e212_31, ab_e212_32, ab_e212_33, ab_e212_35, ab_e212_38, ab_e212_41, ab_e212_44, ab_e212_45, ab_e212_48, ab_e212_49, ab_e212_51, ab_e212_53, ab_e212_56, ab_e212_57, ab_e212_60, ab_e212_61, ab_e212_62, ab_e212_65, ab_e212_68, ab_e212_69, ab_e212_70, ab_e212_73, ab_e212_76, ab_e212_82, ab_e212_85, ab_e212_86, ab_br_t, ab_br_f, ab_re_v (ab_zz _), ab_re_n (ab_zz _)])))
        all_goals first | exact ih _ | omega
      · simp (discharger := first | assumption | exact True.intro | exact not_false | (refine ab_gK ?_; with_unfolding_all rfl) | exact ab_rgI (by omega) (by omega) | omega) only [ab_y232, ab_y233, bb_y205, ab_e212_0, ab_e212_1, ab_e212_2, ab_e212_3, ab_e212_5, ab_e212_6, ab_e212_9, ab_e212_12, ab_e212_13, ab_e212_14, ab_e212_17, ab_e212_19, ab_e212_20, ab_e212_24, ab_e212_26, ab_e212_29, ab_e212_30, ab_e212_31, ab_e212_32, ab_e212_33, ab_e212_35, ab_e212_38, ab_e212_41, ab_e212_44, ab_e212_45, ab_e212_48, ab_e212_49, ab_e212_51, ab_e212_53, ab_e212_56, ab_e212_57, ab_e212_60, ab_e212_61, ab_e212_62, ab_e212_65, ab_e212_68, ab_e212_69, ab_e212_70, ab_e212_73, ab_e212_76, ab_e212_82, ab_e212_85, ab_e212_86, ab_br_t, ab_br_f, ab_re_v (ab_zz _), ab_re_n (ab_zz _)]
        iterate 3 (all_goals (try (refine ab_br_c (fun hc => ?_) (fun hc => ?_) <;> try simp (discharger := first | assumption | exact True.intro | exact not_false | (refine ab_gK ?_; with_unfolding_all rfl) | exact ab_rgI (by omega) (by omega) | omega) only [ab_y232, ab_y233, bb_y205, ab_e212_0, ab_e212_1, ab_e212_2, ab_e212_3, ab_e212_5, ab_e212_6, ab_e212_9, ab_e212_12, ab_e212_13, ab_e212_14, ab_e212_17, ab_e212_19, ab_e212_20, ab_e212_24, ab_e212_26, ab_e212_29, ab_e212_30, ab_e212_31, ab_e212_32, ab_e212_33, ab_e212_35, ab_e212_38, ab_e212_41, ab_e212_44, ab_e212_45, ab_e212_48, ab_e212_49, ab_e212_51, ab_e212_53, ab_e212_56, ab_e212_57, ab_e212_60, ab_e212_61, ab_e212_62, ab_e212_65, ab_e212_68, ab_e212_69, ab_e212_70, ab_e212_73, ab_e212_76, ab_e212_82, ab_e212_85, ab_e212_86, ab_br_t, ab_br_f, ab_re_v (ab_zz _), ab_re_n (ab_zz _)])))
        all_goals first | exact ih _ | omega
termination_by (ab_sz D b s - i).toNat
decreasing_by all_goals omega

theorem bb_l212 {K : ab_Kt} {D : Nat → Int → Int} {L : Nat → Int → Int64} {z : ab_Z} {b : Nat} (hb : ab_bk b) (hI : ab_IB D b) {w : Int} (hw9 : w = 0 ∨ w = 1) (x4 x5 x6 : Option Value) (s p : Int) (h0 : 0 ≤ s) (h1 : s ≤ D b 3) (hp : p = ab_S (ab_sz D b) s) (hf : ∀ q, 0 ≤ q → q < p → (bb_fw D L b w) q ≠ 1) : ab_ev K 212 4 [some (.ref b), some (.int (ab_I w)), some (.int (ab_I p)), some (.int (ab_I s)), x4, x5, x6] [] (ab_mk D L z) = some (.inl (some (.int (ab_I (ab_ff (bb_fw D L b w) (ab_all D b))))), (ab_mk D L z)) := by
  have hn := ab_IB_n hI
  have hal := ab_all_rg hI
  rw [ab_e212_4]
  by_cases hc : D b 3 ≤ s
  · simp (discharger := first | assumption | exact True.intro | exact not_false | (refine ab_gK ?_; with_unfolding_all rfl) | exact ab_rgI (by omega) (by omega) | omega) only [ab_e212_0, ab_e212_1, ab_e212_2, ab_e212_3, ab_e212_5, ab_e212_6, ab_e212_9, ab_e212_12, ab_e212_13, ab_e212_14, ab_e212_17, ab_e212_19, ab_e212_20, ab_e212_24, ab_e212_26, ab_e212_29, ab_e212_30, ab_e212_31, ab_e212_32, ab_e212_33, ab_e212_35, ab_e212_38, ab_e212_41, ab_e212_44, ab_e212_45, ab_e212_48, ab_e212_49, ab_e212_51, ab_e212_53, ab_e212_56, ab_e212_57, ab_e212_60, ab_e212_61, ab_e212_62, ab_e212_65, ab_e212_68, ab_e212_69, ab_e212_70, ab_e212_73, ab_e212_76, ab_e212_79, ab_e212_82, ab_e212_85, ab_e212_86, ab_br_t, ab_br_f, ab_re_v (ab_zz _), ab_re_n (ab_zz _)]
    exact ab_fin (by rw [ab_ff_no hal.1 (by rw [show ab_all D b = p by rw [hp, show s = D b 3 by omega]; rfl]; exact hf)]) rfl
  · have he := ab_IB_e hI h0 (by omega)
    simp (discharger := first | assumption | exact True.intro | exact not_false | (refine ab_gK ?_; with_unfolding_all rfl) | exact ab_rgI (by omega) (by omega) | omega) only [ab_y231, ab_e212_0, ab_e212_1, ab_e212_2, ab_e212_3, ab_e212_5, ab_e212_6, ab_e212_9, ab_e212_12, ab_e212_13, ab_e212_14, ab_e212_17, ab_e212_19, ab_e212_20, ab_e212_24, ab_e212_26, ab_e212_29, ab_e212_30, ab_e212_31, ab_e212_32, ab_e212_33, ab_e212_35, ab_e212_38, ab_e212_41, ab_e212_44, ab_e212_45, ab_e212_48, ab_e212_49, ab_e212_51, ab_e212_53, ab_e212_56, ab_e212_57, ab_e212_60, ab_e212_61, ab_e212_62, ab_e212_65, ab_e212_68, ab_e212_69, ab_e212_70, ab_e212_73, ab_e212_76, ab_e212_79, ab_e212_82, ab_e212_85, ab_e212_86, ab_br_t, ab_br_f, ab_re_v (ab_zz _), ab_re_n (ab_zz _)]
    refine bb_l212i hb hI hw9 s h0 (by omega) (fun y5 y6 hf2 => ?_) (fun q q0 q1 hq hj => ?_) 0 p _ (by omega) (by omega) (by omega) hf
    · simp (discharger := first | assumption | exact True.intro | exact not_false | (refine ab_gK ?_; with_unfolding_all rfl) | exact ab_rgI (by omega) (by omega) | omega) only [ab_e212_0, ab_e212_1, ab_e212_2, ab_e212_3, ab_e212_5, ab_e212_6, ab_e212_9, ab_e212_12, ab_e212_13, ab_e212_14, ab_e212_17, ab_e212_19, ab_e212_20, ab_e212_24, ab_e212_26, ab_e212_29, ab_e212_30, ab_e212_31, ab_e212_32, ab_e212_33, ab_e212_35, ab_e212_38, ab_e212_41, ab_e212_44, ab_e212_45, ab_e212_48, ab_e212_49, ab_e212_51, ab_e212_53, ab_e212_56, ab_e212_57, ab_e212_60, ab_e212_61, ab_e212_62, ab_e212_65, ab_e212_68, ab_e212_69, ab_e212_70, ab_e212_73, ab_e212_76, ab_e212_79, ab_e212_82, ab_e212_85, ab_e212_86, ab_br_t, ab_br_f, ab_re_v (ab_zz _), ab_re_n (ab_zz _)]
      exact bb_l212 hb hI hw9 _ _ _ (s + 1) _ (by omega) (by omega) rfl hf2
    · rw [ab_ff_at q0 q1 hj hq]
termination_by (D b 3 - s).toNat
decreasing_by all_goals omega

theorem bb_y212 {K : ab_Kt} {D : Nat → Int → Int} {L : Nat → Int → Int64} {z : ab_Z} {b : Nat} (hb : ab_bk b) (hI : ab_IB D b) {w : Int} (hw9 : w = 0 ∨ w = 1) : ab_cal K 212 [.ref b, .int (ab_I w)] (ab_mk D L z) = some (.inl (some (.int (ab_I (ab_ff (bb_fw D L b w) (ab_all D b))))), (ab_mk D L z)) := by
  have hn := ab_IB_n hI
  simp (discharger := first | assumption | exact True.intro | exact not_false | (refine ab_gK ?_; with_unfolding_all rfl) | exact ab_rgI (by omega) (by omega) | omega) only [ab_a212, ab_e212_0, ab_e212_1, ab_e212_2, ab_e212_3, ab_e212_5, ab_e212_6, ab_e212_9, ab_e212_12, ab_e212_13, ab_e212_14, ab_e212_17, ab_e212_19, ab_e212_20, ab_e212_22, ab_e212_24, ab_e212_26, ab_e212_29, ab_e212_30, ab_e212_31, ab_e212_32, ab_e212_33, ab_e212_35, ab_e212_38, ab_e212_41, ab_e212_44, ab_e212_45, ab_e212_48, ab_e212_49, ab_e212_51, ab_e212_53, ab_e212_56, ab_e212_57, ab_e212_60, ab_e212_61, ab_e212_62, ab_e212_65, ab_e212_68, ab_e212_69, ab_e212_70, ab_e212_73, ab_e212_76, ab_e212_79, ab_e212_82, ab_e212_85, ab_e212_86, ab_br_t, ab_br_f, ab_re_v (ab_zz _), ab_re_n (ab_zz _)]
  exact bb_l212 hb hI hw9 _ _ _ 0 0 (by omega) (by omega) rfl (fun q _ _ => by omega)

theorem bb_y130 {K : ab_Kt} {D : Nat → Int → Int} {L : Nat → Int → Int64} {z : ab_Z} {c : Int} (hw : bb_WS c (D 501)) {e : Int} (e0 : 0 ≤ e) (e1 : e < D 501 3) {p : Int} (p0 : 0 ≤ p) (p1 : p < 192) : ab_cal K 130 [.ref 500, .int (ab_I e), .int (ab_I p)] (ab_mk D L z) = some (.inl (some (.int (ab_I (bb_sl (D 501) e p)))), (ab_mk D L z)) := by
  have hW := hw.2.2.2.2.2.1 e e0 e1
  have hn := bb_WB_n hW
  have hm := hw.1
  have hc9 := hw.2.2.2.2.1
  have h09 := hw.2.2.1
  have hI := bb_WS_IR hw e0 e1
  have hl := bb_WB_l hW (j := p / 24) (by omega) (by omega)
  have hr := bb_sl_rg (D 501) e p
  have hd : bb_sl (D 501) e p = bb_ib (bb_R (D 501) e (43 + p / 24)) (p % 24) := rfl
  simp (discharger := first | assumption | exact True.intro | exact not_false | (refine ab_gK ?_; with_unfolding_all rfl) | exact ab_rgI (by omega) (by omega) | omega) only [ab_a130, ab_y110, ab_e130_0, ab_e130_1, ab_e130_2, ab_e130_4, ab_e130_5, ab_e130_7, ab_e130_8, ab_e130_9, ab_e130_12, ab_e130_13, ab_e130_15, bb_e130_16, ab_e130_17, bb_e130_18, ab_e130_19, ab_e130_20, ab_e130_23, ab_e130_24, ab_e130_27, ab_e130_28, ab_br_t, ab_br_f, ab_re_v (ab_zz _), ab_re_n (ab_zz _)]
  iterate 1 (all_goals (try (refine ab_br_c (fun hc => ?_) (fun hc => ?_) <;> try simp (discharger := first | assumption | exact True.intro | exact not_false | (refine ab_gK ?_; with_unfolding_all rfl) | exact ab_rgI (by omega) (by omega) | omega) only [ab_a130, ab_y110, ab_e130_0, ab_e130_1, ab_e130_2, ab_e130_4, ab_e130_5, ab_e130_7, ab_e130_8, ab_e130_9, ab_e130_12, ab_e130_13, ab_e130_15, bb_e130_16, ab_e130_17, bb_e130_18, ab_e130_19, ab_e130_20, ab_e130_23, ab_e130_24, ab_e130_27, ab_e130_28, ab_br_t, ab_br_f, ab_re_v (ab_zz _), ab_re_n (ab_zz _)])))
  all_goals exact ab_fin (by omega) rfl

theorem bb_l150 {K : ab_Kt} {D : Nat → Int → Int} {L : Nat → Int → Int64} {z : ab_Z} {c : Int} (hw : bb_WS c (D 501)) {e : Int} (e0 : 0 ≤ e) (e1 : e < D 501 3) (k a : Int) (k0 : 0 ≤ k) (k1 : k ≤ 192) (ha : a = ab_S (bb_sl (D 501) e) k) : ab_ev K 150 4 [some (.ref 500), some (.int (ab_I e)), some (.int (ab_I a)), some (.int (ab_I k))] [] (ab_mk D L z) = some (.inl (some (.int (ab_I (ab_S (bb_sl (D 501) e) 192)))), (ab_mk D L z)) := by
  have hr := bb_sl_rg (D 501) e k
  rw [ab_e150_4]
  by_cases hk : 192 ≤ k
  · simp (discharger := first | assumption | exact True.intro | exact not_false | (refine ab_gK ?_; with_unfolding_all rfl) | exact ab_rgI (by omega) (by omega) | omega) only [ab_e150_0, ab_e150_1, ab_e150_2, ab_e150_3, ab_e150_5, ab_e150_8, ab_e150_11, ab_e150_12, ab_e150_13, ab_e150_14, ab_e150_15, ab_e150_18, ab_e150_21, ab_e150_22, ab_e150_25, ab_e150_26, ab_e150_27, ab_e150_28, ab_e150_31, ab_e150_34, ab_e150_35, ab_br_t, ab_br_f, ab_re_v (ab_zz _), ab_re_n (ab_zz _)]
    exact ab_fin (by rw [ha, show k = 192 by omega]) rfl
  · simp (discharger := first | assumption | exact True.intro | exact not_false | (refine ab_gK ?_; with_unfolding_all rfl) | exact ab_rgI (by omega) (by omega) | omega) only [bb_y130 hw e0 e1, ab_e150_0, ab_e150_1, ab_e150_2, ab_e150_3, ab_e150_5, ab_e150_8, ab_e150_11, ab_e150_12, ab_e150_13, ab_e150_14, ab_e150_15, ab_e150_18, ab_e150_21, ab_e150_22, ab_e150_25, ab_e150_26, ab_e150_27, ab_e150_28, ab_e150_31, ab_e150_34, ab_e150_35, ab_br_t, ab_br_f, ab_re_v (ab_zz _), ab_re_n (ab_zz _)]
    iterate 1 (all_goals (try (refine ab_br_c (fun hc => ?_) (fun hc => ?_) <;> try simp (discharger := first | assumption | exact True.intro | exact not_false | (refine ab_gK ?_; with_unfolding_all rfl) | exact ab_rgI (by omega) (by omega) | omega) only [bb_y130 hw e0 e1, ab_e150_0, ab_e150_1, ab_e150_2, ab_e150_3, ab_e150_5, ab_e150_8, ab_e150_11, ab_e150_12, ab_e150_13, ab_e150_14, ab_e150_15, ab_e150_18, ab_e150_21, ab_e150_22, ab_e150_25, ab_e150_26, ab_e150_27, ab_e150_28, ab_e150_31, ab_e150_34, ab_e150_35, ab_br_t, ab_br_f, ab_re_v (ab_zz _), ab_re_n (ab_zz _)])))
    all_goals exact bb_l150 hw e0 e1 (k + 1) _ (by omega) (by omega) (by rw [ab_S1 _ k0, ha]; omega)
termination_by (192 - k).toNat
decreasing_by all_goals omega

theorem bb_y150 {K : ab_Kt} {D : Nat → Int → Int} {L : Nat → Int → Int64} {z : ab_Z} {c : Int} (hw : bb_WS c (D 501)) {e : Int} (e0 : 0 ≤ e) (e1 : e < D 501 3) : ab_cal K 150 [.ref 500, .int (ab_I e)] (ab_mk D L z) = some (.inl (some (.int (ab_I (ab_S (bb_sl (D 501) e) 192)))), (ab_mk D L z)) := by
  simp (discharger := first | assumption | exact True.intro | exact not_false | (refine ab_gK ?_; with_unfolding_all rfl) | exact ab_rgI (by omega) (by omega) | omega) only [ab_a150, ab_e150_0, ab_e150_1, ab_e150_2, ab_e150_3, ab_e150_5, ab_e150_8, ab_e150_11, ab_e150_12, ab_e150_13, ab_e150_14, ab_e150_15, ab_e150_18, ab_e150_21, ab_e150_22, ab_e150_25, ab_e150_26, ab_e150_27, ab_e150_28, ab_e150_31, ab_e150_34, ab_e150_35, ab_br_t, ab_br_f, ab_re_v (ab_zz _), ab_re_n (ab_zz _)]
  exact bb_l150 hw e0 e1 0 0 (by omega) (by omega) rfl

def bb_wsF (g : Int → Int) (e p : Int) : Int := if ab_rwr g e p = 1 ∧ ¬ (bb_sl g e p = 1) then 1 else 0
def bb_ws (g : Int → Int) (e : Int) : Int := ab_ff (bb_wsF g e) (ab_rall g e)
theorem bb_l156 {K : ab_Kt} {D : Nat → Int → Int} {L : Nat → Int → Int64} {z : ab_Z} {c : Int} (hw : bb_WS c (D 501)) {e : Int} (e0 : 0 ≤ e) (e1 : e < D 501 3) (k : Int) (k0 : 0 ≤ k) (k1 : k ≤ ab_rall (D 501) e) (hf : ∀ q, 0 ≤ q → q < k → (bb_wsF (D 501) e) q ≠ 1) : ab_ev K 156 8 [some (.ref 500), some (.int (ab_I e)), some (.int (ab_I (ab_rall (D 501) e))), some (.int (ab_I k))] [] (ab_mk D L z) = some (.inl (some (.int (ab_I (bb_ws (D 501) e)))), (ab_mk D L z)) := by
  have hW := hw.2.2.2.2.2.1 e e0 e1
  have hn := bb_WB_n hW
  have hm := hw.1
  have hc9 := hw.2.2.2.2.1
  have h09 := hw.2.2.1
  have hI := bb_WS_IR hw e0 e1
  have hal := ab_rall_rg hI
  have hr := bb_sl_rg (D 501) e k
  have hr2 := ab_rwr_rg (D 501) e k
  have e6 : e < 6 := by omega
  rw [ab_e156_8]
  by_cases hk : ab_rall (D 501) e ≤ k
  · simp (discharger := first | assumption | exact True.intro | exact not_false | (refine ab_gK ?_; with_unfolding_all rfl) | exact ab_rgI (by omega) (by omega) | omega) only [ab_e156_0, ab_e156_1, ab_e156_2, ab_e156_5, ab_e156_6, ab_e156_7, ab_e156_9, ab_e156_10, ab_e156_13, ab_e156_14, ab_e156_15, ab_e156_16, ab_e156_19, ab_e156_22, ab_e156_23, ab_e156_24, ab_e156_25, ab_e156_28, ab_e156_31, ab_e156_32, ab_e156_33, ab_e156_36, ab_e156_39, ab_e156_40, ab_br_t, ab_br_f, ab_re_v (ab_zz _), ab_re_n (ab_zz _)]
    exact ab_fin (by unfold bb_ws; rw [ab_ff_no hal.1 (by rw [show ab_rall (D 501) e = k by omega]; exact hf)]) rfl
  · have hFp : bb_wsF (D 501) e k = if ab_rwr (D 501) e k = 1 ∧ ¬ (bb_sl (D 501) e k = 1) then 1 else 0 := rfl
    by_cases hd : ab_rwr (D 501) e k = 1 ∧ ¬ (bb_sl (D 501) e k = 1)
    · rw [if_pos hd] at hFp
      simp (discharger := first | assumption | exact True.intro | exact not_false | (refine ab_gK ?_; with_unfolding_all rfl) | exact ab_rgI (by omega) (by omega) | omega) only [ab_y141 e0 e6 hI, bb_y130 hw e0 e1, ab_e156_0, ab_e156_1, ab_e156_2, ab_e156_5, ab_e156_6, ab_e156_7, ab_e156_9, ab_e156_10, ab_e156_13, ab_e156_14, ab_e156_15, ab_e156_16, ab_e156_19, ab_e156_22, ab_e156_23, ab_e156_24, ab_e156_25, ab_e156_28, ab_e156_31, ab_e156_32, ab_e156_33, ab_e156_36, ab_e156_39, ab_e156_40, ab_br_t, ab_br_f, ab_re_v (ab_zz _), ab_re_n (ab_zz _)]
      exact ab_fin (by unfold bb_ws; rw [ab_ff_at k0 (by omega) hf hFp]) rfl
    · rw [if_neg hd] at hFp
      have hf2 : ∀ q, 0 ≤ q → q < k + 1 → bb_wsF (D 501) e q ≠ 1 := by
        intro q q0 q1
        by_cases hq : q = k
        · rw [hq, hFp]; decide
        · exact hf q q0 (by omega)
      have ih := bb_l156 (K := K) (L := L) (z := z) hw e0 e1 (k + 1) (by omega) (by omega) hf2
      simp (discharger := first | assumption | exact True.intro | exact not_false | (refine ab_gK ?_; with_unfolding_all rfl) | exact ab_rgI (by omega) (by omega) | omega) only [ab_y141 e0 e6 hI, bb_y130 hw e0 e1, ab_e156_0, ab_e156_1, ab_e156_2, ab_e156_5, ab_e156_6, ab_e156_7, ab_e156_9, ab_e156_10, ab_e156_13, ab_e156_14, ab_e156_15, ab_e156_16, ab_e156_19, ab_e156_22, ab_e156_23, ab_e156_24, ab_e156_25, ab_e156_28, ab_e156_31, ab_e156_32, ab_e156_33, ab_e156_36, ab_e156_39, ab_e156_40, ab_br_t, ab_br_f, ab_re_v (ab_zz _), ab_re_n (ab_zz _)]
      iterate 2 (all_goals (try (refine ab_br_c (fun hc => ?_) (fun hc => ?_) <;> try simp (discharger := first | assumption | exact True.intro | exact not_false | (refine ab_gK ?_; with_unfolding_all rfl) | exact ab_rgI (by omega) (by omega) | omega) only [ab_y141 e0 e6 hI, bb_y130 hw e0 e1, ab_e156_0, ab_e156_1, ab_e156_2, ab_e156_5, ab_e156_6, ab_e156_7, ab_e156_9, ab_e156_10, ab_e156_13, ab_e156_14, ab_e156_15, ab_e156_16, ab_e156_19, ab_e156_22, ab_e156_23, ab_e156_24, ab_e156_25, ab_e156_28, ab_e156_31, ab_e156_32, ab_e156_33, ab_e156_36, ab_e156_39, ab_e156_40, ab_br_t, ab_br_f, ab_re_v (ab_zz _), ab_re_n (ab_zz _)])))
      all_goals first | exact ih | omega
termination_by (ab_rall (D 501) e - k).toNat
decreasing_by all_goals omega

theorem bb_y156 {K : ab_Kt} {D : Nat → Int → Int} {L : Nat → Int → Int64} {z : ab_Z} {c : Int} (hw : bb_WS c (D 501)) {e : Int} (e0 : 0 ≤ e) (e1 : e < D 501 3) : ab_cal K 156 [.ref 500, .int (ab_I e)] (ab_mk D L z) = some (.inl (some (.int (ab_I (bb_ws (D 501) e)))), (ab_mk D L z)) := by
  have hW := hw.2.2.2.2.2.1 e e0 e1
  have hn := bb_WB_n hW
  have hm := hw.1
  have hc9 := hw.2.2.2.2.1
  have h09 := hw.2.2.1
  have hI := bb_WS_IR hw e0 e1
  have hal := ab_rall_rg hI
  have e6 : e < 6 := by omega
  simp (discharger := first | assumption | exact True.intro | exact not_false | (refine ab_gK ?_; with_unfolding_all rfl) | exact ab_rgI (by omega) (by omega) | omega) only [ab_a156, ab_y104 e0 e6 hI, ab_e156_0, ab_e156_1, ab_e156_2, ab_e156_5, ab_e156_6, ab_e156_7, ab_e156_9, ab_e156_10, ab_e156_13, ab_e156_14, ab_e156_15, ab_e156_16, ab_e156_19, ab_e156_22, ab_e156_23, ab_e156_24, ab_e156_25, ab_e156_28, ab_e156_31, ab_e156_32, ab_e156_33, ab_e156_36, ab_e156_39, ab_e156_40, ab_br_t, ab_br_f, ab_re_v (ab_zz _), ab_re_n (ab_zz _)]
  exact bb_l156 hw e0 e1 0 (by omega) (by omega) (fun q _ _ => by omega)

theorem bb_I_div2 {a : Int} (h0 : -1000 < a) (h1 : a < 0) : ab_I a / ab_I 2 = ab_I (-((-a) / 2)) := by
  have e1 : (ab_I a / ab_I 2).toInt = -((-a) / 2) := by
    rw [Int32.toInt_div, ab_I_toInt ⟨by omega, by omega⟩, ab_I_toInt ⟨by omega, by omega⟩]
    have e : a.tdiv 2 = -((-a) / 2) := by
      have e2 : (-(-a)).tdiv 2 = -((-a).tdiv 2) := Int.neg_tdiv _ _
      rw [Int.neg_neg] at e2
      rw [e2, Int.tdiv_eq_ediv_of_nonneg (by omega)]
    rw [e]
    exact Int.bmod_eq_of_le (by omega) (by omega)
  have h2 := ab_I_of (ab_I a / ab_I 2)
  rw [e1] at h2
  exact h2.symm
theorem bb_e143_83 {K : ab_Kt} {h : ab_H} {x0 x1 x2 x3 x4 x5 x6 x7 : Option Value} {a : Int} (h0 : -1000 < a) (h1 : a < 0) : ab_ev K 143 83 [x0, x1, x2, x3, x4, x5, x6, x7] [.int (ab_I 2), .int (ab_I a)] h = ab_ev K 143 84 [x0, x1, x2, x3, x4, x5, x6, x7] [.int (ab_I (-((-a) / 2)))] h := by
  refine ab_goI (op := ab_idiv 84) (congrFun ab_q143 83) ?_
  unfold ab_idiv
  dsimp only
  rw [if_pos (show ¬ ab_I 2 = 0 by decide +kernel), bb_I_div2 h0 h1]
theorem bb_e143_89 {K : ab_Kt} {h : ab_H} {x0 x1 x2 x3 x4 x5 x6 x7 : Option Value} {a : Int} (h0 : -1000 < a) (h1 : a < 0) : ab_ev K 143 89 [x0, x1, x2, x3, x4, x5, x6, x7] [.int (ab_I 2), .int (ab_I a)] h = ab_ev K 143 90 [x0, x1, x2, x3, x4, x5, x6, x7] [.int (ab_I (-((-a) % 2)))] h := by
  refine ab_goI (op := ab_irem 90) (congrFun ab_q143 89) ?_
  unfold ab_irem
  dsimp only
  rw [if_pos (show ¬ ab_I 2 = 0 by decide +kernel), bb_I_div2 h0 h1, ab_I_mul, ab_I_sub, show a - -((-a) / 2) * 2 = -((-a) % 2) by omega]
theorem bb_y143 {K : ab_Kt} {D : Nat → Int → Int} {L : Nat → Int → Int64} {z : ab_Z} {c : Int} (hw : bb_WS c (D 501)) {e : Int} (e0 : 0 ≤ e) (e1 : e < D 501 3) {s : Int} (s0 : 0 ≤ s) (s1 : s < bb_R (D 501) e 3) : ab_cal K 143 [.ref 500, .int (ab_I e), .int (ab_I s)] (ab_mk D L z) = some (.inl (some (.int (ab_I (ab_rri (D 501) e s)))), (ab_mk D L z)) := by
  have hW := hw.2.2.2.2.2.1 e e0 e1
  have hn := bb_WB_n hW
  have hm := hw.1
  have hc9 := hw.2.2.2.2.1
  have h09 := hw.2.2.1
  have hI := bb_WS_IR hw e0 e1
  have hz := ab_rsz_rg (D 501) e s
  have ha := bb_WB_a hW s0 (by omega)
  have hS := ab_rS_rg (D 501) e s0
  have e6 : e < 6 := by omega
  have s12 : s < 12 := by omega
  have hd : ab_rri (D 501) e s = _ := rfl
  rw [hd]
  unfold ab_rri
  by_cases ht : bb_R (D 501) e (7 + 3 * s + 2) = 0
  · rw [if_pos ht]
    simp (discharger := first | assumption | exact True.intro | exact not_false | (refine ab_gK ?_; with_unfolding_all rfl) | exact ab_rgI (by omega) (by omega) | omega) only [ab_a143, ab_y148 e0 e6 hI, ab_y112 e0 e6 hI, ab_y111 e0 e6, ab_y110, ab_y126, ab_e143_0, ab_e143_1, ab_e143_2, ab_e143_3, ab_e143_6, ab_e143_7, ab_e143_8, ab_e143_9, ab_e143_10, ab_e143_13, ab_e143_15, ab_e143_16, ab_e143_17, ab_e143_18, ab_e143_19, ab_e143_22, ab_e143_24, ab_e143_25, ab_e143_26, ab_e143_27, ab_e143_28, ab_e143_31, ab_e143_34, ab_e143_36, ab_e143_37, ab_e143_38, ab_e143_39, ab_e143_42, ab_e143_43, ab_e143_46, ab_e143_47, ab_e143_49, ab_e143_50, ab_e143_51, ab_e143_53, ab_e143_54, ab_e143_55, ab_e143_56, ab_e143_57, ab_e143_60, ab_e143_61, ab_e143_64, ab_e143_65, ab_e143_68, ab_e143_69, ab_e143_71, ab_e143_73, ab_e143_74, ab_e143_75, ab_e143_76, ab_e143_77, ab_e143_78, ab_e143_80, ab_e143_82, ab_e143_83, bb_e143_83, ab_e143_84, ab_e143_86, ab_e143_88, ab_e143_89, bb_e143_89, ab_e143_90, ab_e143_93, ab_e143_95, ab_e143_96, ab_e143_98, ab_e143_99, ab_e143_100, ab_e143_103, ab_e143_106, ab_e143_107, ab_e143_109, ab_e143_110, ab_e143_111, ab_e143_112, ab_e143_113, ab_e143_116, ab_e143_119, ab_e143_120, ab_e143_123, ab_e143_124, ab_br_t, ab_br_f, ab_re_v (ab_zz _), ab_re_n (ab_zz _)]
    iterate 1 (all_goals (try (refine ab_br_c (fun hc => ?_) (fun hc => ?_) <;> try simp (discharger := first | assumption | exact True.intro | exact not_false | (refine ab_gK ?_; with_unfolding_all rfl) | exact ab_rgI (by omega) (by omega) | omega) only [ab_a143, ab_y148 e0 e6 hI, ab_y112 e0 e6 hI, ab_y111 e0 e6, ab_y110, ab_y126, ab_e143_0, ab_e143_1, ab_e143_2, ab_e143_3, ab_e143_6, ab_e143_7, ab_e143_8, ab_e143_9, ab_e143_10, ab_e143_13, ab_e143_15, ab_e143_16, ab_e143_17, ab_e143_18, ab_e143_19, ab_e143_22, ab_e143_24, ab_e143_25, ab_e143_26, ab_e143_27, ab_e143_28, ab_e143_31, ab_e143_34, ab_e143_36, ab_e143_37, ab_e143_38, ab_e143_39, ab_e143_42, ab_e143_43, ab_e143_46, ab_e143_47, ab_e143_49, ab_e143_50, ab_e143_51, ab_e143_53, ab_e143_54, ab_e143_55, ab_e143_56, ab_e143_57, ab_e143_60, ab_e143_61, ab_e143_64, ab_e143_65, ab_e143_68, ab_e143_69, ab_e143_71, ab_e143_73, ab_e143_74, ab_e143_75, ab_e143_76, ab_e143_77, ab_e143_78, ab_e143_80, ab_e143_82, ab_e143_83, bb_e143_83, ab_e143_84, ab_e143_86, ab_e143_88, ab_e143_89, bb_e143_89, ab_e143_90, ab_e143_93, ab_e143_95, ab_e143_96, ab_e143_98, ab_e143_99, ab_e143_100, ab_e143_103, ab_e143_106, ab_e143_107, ab_e143_109, ab_e143_110, ab_e143_111, ab_e143_112, ab_e143_113, ab_e143_116, ab_e143_119, ab_e143_120, ab_e143_123, ab_e143_124, ab_br_t, ab_br_f, ab_re_v (ab_zz _), ab_re_n (ab_zz _)])))
    all_goals exact ab_fin (by omega) rfl
  · rw [if_neg ht]
    by_cases hq : bb_R (D 501) e (7 + 3 * s + 0) + ab_rsz (D 501) e s - 2 - ab_S (ab_rsz (D 501) e) s < 0
    · simp (discharger := first | assumption | exact True.intro | exact not_false | (refine ab_gK ?_; with_unfolding_all rfl) | exact ab_rgI (by omega) (by omega) | omega) only [ab_a143, ab_y148 e0 e6 hI, ab_y112 e0 e6 hI, ab_y111 e0 e6, ab_y110, ab_y97, ab_e143_0, ab_e143_1, ab_e143_2, ab_e143_3, ab_e143_6, ab_e143_7, ab_e143_8, ab_e143_9, ab_e143_10, ab_e143_13, ab_e143_15, ab_e143_16, ab_e143_17, ab_e143_18, ab_e143_19, ab_e143_22, ab_e143_24, ab_e143_25, ab_e143_26, ab_e143_27, ab_e143_28, ab_e143_31, ab_e143_34, ab_e143_36, ab_e143_37, ab_e143_38, ab_e143_39, ab_e143_42, ab_e143_43, ab_e143_46, ab_e143_47, ab_e143_49, ab_e143_50, ab_e143_51, ab_e143_53, ab_e143_54, ab_e143_55, ab_e143_56, ab_e143_57, ab_e143_60, ab_e143_61, ab_e143_64, ab_e143_65, ab_e143_68, ab_e143_69, ab_e143_71, ab_e143_73, ab_e143_74, ab_e143_75, ab_e143_76, ab_e143_77, ab_e143_78, ab_e143_80, ab_e143_82, ab_e143_83, bb_e143_83, ab_e143_84, ab_e143_86, ab_e143_88, ab_e143_89, bb_e143_89, ab_e143_90, ab_e143_93, ab_e143_95, ab_e143_96, ab_e143_98, ab_e143_99, ab_e143_100, ab_e143_103, ab_e143_106, ab_e143_107, ab_e143_109, ab_e143_110, ab_e143_111, ab_e143_112, ab_e143_113, ab_e143_116, ab_e143_119, ab_e143_120, ab_e143_123, ab_e143_124, ab_br_t, ab_br_f, ab_re_v (ab_zz _), ab_re_n (ab_zz _)]
      iterate 3 (all_goals (try (refine ab_br_c (fun hc => ?_) (fun hc => ?_) <;> try simp (discharger := first | assumption | exact True.intro | exact not_false | (refine ab_gK ?_; with_unfolding_all rfl) | exact ab_rgI (by omega) (by omega) | omega) only [ab_a143, ab_y148 e0 e6 hI, ab_y112 e0 e6 hI, ab_y111 e0 e6, ab_y110, ab_y97, ab_e143_0, ab_e143_1, ab_e143_2, ab_e143_3, ab_e143_6, ab_e143_7, ab_e143_8, ab_e143_9, ab_e143_10, ab_e143_13, ab_e143_15, ab_e143_16, ab_e143_17, ab_e143_18, ab_e143_19, ab_e143_22, ab_e143_24, ab_e143_25, ab_e143_26, ab_e143_27, ab_e143_28, ab_e143_31, ab_e143_34, ab_e143_36, ab_e143_37, ab_e143_38, ab_e143_39, ab_e143_42, ab_e143_43, ab_e143_46, ab_e143_47, ab_e143_49, ab_e143_50, ab_e143_51, ab_e143_53, ab_e143_54, ab_e143_55, ab_e143_56, ab_e143_57, ab_e143_60, ab_e143_61, ab_e143_64, ab_e143_65, ab_e143_68, ab_e143_69, ab_e143_71, ab_e143_73, ab_e143_74, ab_e143_75, ab_e143_76, ab_e143_77, ab_e143_78, ab_e143_80, ab_e143_82, ab_e143_83, bb_e143_83, ab_e143_84, ab_e143_86, ab_e143_88, ab_e143_89, bb_e143_89, ab_e143_90, ab_e143_93, ab_e143_95, ab_e143_96, ab_e143_98, ab_e143_99, ab_e143_100, ab_e143_103, ab_e143_106, ab_e143_107, ab_e143_109, ab_e143_110, ab_e143_111, ab_e143_112, ab_e143_113, ab_e143_116, ab_e143_119, ab_e143_120, ab_e143_123, ab_e143_124, ab_br_t, ab_br_f, ab_re_v (ab_zz _), ab_re_n (ab_zz _)])))
      all_goals exact ab_fin (by rw [if_neg (by omega)]) rfl
    · simp (discharger := first | assumption | exact True.intro | exact not_false | (refine ab_gK ?_; with_unfolding_all rfl) | exact ab_rgI (by omega) (by omega) | omega) only [ab_a143, ab_y148 e0 e6 hI, ab_y112 e0 e6 hI, ab_y111 e0 e6, ab_y110, ab_y97, ab_e143_0, ab_e143_1, ab_e143_2, ab_e143_3, ab_e143_6, ab_e143_7, ab_e143_8, ab_e143_9, ab_e143_10, ab_e143_13, ab_e143_15, ab_e143_16, ab_e143_17, ab_e143_18, ab_e143_19, ab_e143_22, ab_e143_24, ab_e143_25, ab_e143_26, ab_e143_27, ab_e143_28, ab_e143_31, ab_e143_34, ab_e143_36, ab_e143_37, ab_e143_38, ab_e143_39, ab_e143_42, ab_e143_43, ab_e143_46, ab_e143_47, ab_e143_49, ab_e143_50, ab_e143_51, ab_e143_53, ab_e143_54, ab_e143_55, ab_e143_56, ab_e143_57, ab_e143_60, ab_e143_61, ab_e143_64, ab_e143_65, ab_e143_68, ab_e143_69, ab_e143_71, ab_e143_73, ab_e143_74, ab_e143_75, ab_e143_76, ab_e143_77, ab_e143_78, ab_e143_80, ab_e143_82, ab_e143_83, bb_e143_83, ab_e143_84, ab_e143_86, ab_e143_88, ab_e143_89, bb_e143_89, ab_e143_90, ab_e143_93, ab_e143_95, ab_e143_96, ab_e143_98, ab_e143_99, ab_e143_100, ab_e143_103, ab_e143_106, ab_e143_107, ab_e143_109, ab_e143_110, ab_e143_111, ab_e143_112, ab_e143_113, ab_e143_116, ab_e143_119, ab_e143_120, ab_e143_123, ab_e143_124, ab_br_t, ab_br_f, ab_re_v (ab_zz _), ab_re_n (ab_zz _)]
      iterate 3 (all_goals (try (refine ab_br_c (fun hc => ?_) (fun hc => ?_) <;> try simp (discharger := first | assumption | exact True.intro | exact not_false | (refine ab_gK ?_; with_unfolding_all rfl) | exact ab_rgI (by omega) (by omega) | omega) only [ab_a143, ab_y148 e0 e6 hI, ab_y112 e0 e6 hI, ab_y111 e0 e6, ab_y110, ab_y97, ab_e143_0, ab_e143_1, ab_e143_2, ab_e143_3, ab_e143_6, ab_e143_7, ab_e143_8, ab_e143_9, ab_e143_10, ab_e143_13, ab_e143_15, ab_e143_16, ab_e143_17, ab_e143_18, ab_e143_19, ab_e143_22, ab_e143_24, ab_e143_25, ab_e143_26, ab_e143_27, ab_e143_28, ab_e143_31, ab_e143_34, ab_e143_36, ab_e143_37, ab_e143_38, ab_e143_39, ab_e143_42, ab_e143_43, ab_e143_46, ab_e143_47, ab_e143_49, ab_e143_50, ab_e143_51, ab_e143_53, ab_e143_54, ab_e143_55, ab_e143_56, ab_e143_57, ab_e143_60, ab_e143_61, ab_e143_64, ab_e143_65, ab_e143_68, ab_e143_69, ab_e143_71, ab_e143_73, ab_e143_74, ab_e143_75, ab_e143_76, ab_e143_77, ab_e143_78, ab_e143_80, ab_e143_82, ab_e143_83, bb_e143_83, ab_e143_84, ab_e143_86, ab_e143_88, ab_e143_89, bb_e143_89, ab_e143_90, ab_e143_93, ab_e143_95, ab_e143_96, ab_e143_98, ab_e143_99, ab_e143_100, ab_e143_103, ab_e143_106, ab_e143_107, ab_e143_109, ab_e143_110, ab_e143_111, ab_e143_112, ab_e143_113, ab_e143_116, ab_e143_119, ab_e143_120, ab_e143_123, ab_e143_124, ab_br_t, ab_br_f, ab_re_v (ab_zz _), ab_re_n (ab_zz _)])))
      all_goals exact ab_fin (by first | rw [if_pos ⟨by omega, by omega, by omega, by omega⟩] | rw [if_neg (by omega)]) rfl

theorem bb_y129 {K : ab_Kt} {D : Nat → Int → Int} {L : Nat → Int → Int64} {z : ab_Z} {c : Int} (hw : bb_WS c (D 501)) {e : Int} (he : ab_rg e) {p : Int} (hp : ab_rg p) : ab_cal K 129 [.ref 500, .int (ab_I e), .int (ab_I p)] (ab_mk D L z) = some (.inl (some (.int (ab_I (if (0 ≤ e ∧ e < D 501 3) ∧ 0 ≤ p ∧ p < ab_rall (D 501) e then 1 else 0)))), (ab_mk D L z)) := by
  have hm := hw.1
  by_cases hx : 0 ≤ e ∧ e < D 501 3
  · have e0 := hx.1
    have e1 := hx.2
    have hI := bb_WS_IR hw e0 e1
    have hal := ab_rall_rg hI
    have e6 : e < 6 := by omega
    simp (discharger := first | assumption | exact True.intro | exact not_false | (refine ab_gK ?_; with_unfolding_all rfl) | exact ab_rgI (by omega) (by omega) | omega) only [ab_a129, ab_y103, ab_y104 e0 e6 hI, ab_y97, if_pos hx, ab_e129_0, ab_e129_1, ab_e129_2, ab_e129_5, ab_e129_8, ab_e129_9, ab_e129_10, ab_e129_11, ab_e129_12, ab_e129_15, ab_e129_16, ab_e129_17, ab_e129_20, ab_e129_23, ab_e129_24, ab_e129_27, ab_e129_28, ab_br_t, ab_br_f, ab_re_v (ab_zz _), ab_re_n (ab_zz _)]
    iterate 1 (all_goals (try (refine ab_br_c (fun hc => ?_) (fun hc => ?_) <;> try simp (discharger := first | assumption | exact True.intro | exact not_false | (refine ab_gK ?_; with_unfolding_all rfl) | exact ab_rgI (by omega) (by omega) | omega) only [ab_a129, ab_y103, ab_y104 e0 e6 hI, ab_y97, if_pos hx, ab_e129_0, ab_e129_1, ab_e129_2, ab_e129_5, ab_e129_8, ab_e129_9, ab_e129_10, ab_e129_11, ab_e129_12, ab_e129_15, ab_e129_16, ab_e129_17, ab_e129_20, ab_e129_23, ab_e129_24, ab_e129_27, ab_e129_28, ab_br_t, ab_br_f, ab_re_v (ab_zz _), ab_re_n (ab_zz _)])))
    all_goals exact ab_fin (by omega) rfl
  · simp (discharger := first | assumption | exact True.intro | exact not_false | (refine ab_gK ?_; with_unfolding_all rfl) | exact ab_rgI (by omega) (by omega) | omega) only [ab_a129, ab_y103, if_neg hx, ab_e129_0, ab_e129_1, ab_e129_2, ab_e129_5, ab_e129_8, ab_e129_9, ab_e129_10, ab_e129_11, ab_e129_12, ab_e129_15, ab_e129_16, ab_e129_17, ab_e129_20, ab_e129_23, ab_e129_24, ab_e129_27, ab_e129_28, ab_br_t, ab_br_f, ab_re_v (ab_zz _), ab_re_n (ab_zz _)]
    exact ab_fin (by rw [if_neg (fun x => hx x.1)]) rfl

theorem bb_l98 {K : ab_Kt} {D : Nat → Int → Int} {L : Nat → Int → Int64} {z : ab_Z} {c : Int} (hw : bb_WS c (D 501)) {q : Int} (q0 : 0 ≤ q) (q1 : q < 51) (k a : Int) (k0 : 0 ≤ k) (k1 : k ≤ D 501 3) (ha : a = ab_S (fun e => bb_R (D 501) e q) k) : ab_ev K 98 4 [some (.ref 500), some (.int (ab_I q)), some (.int (ab_I a)), some (.int (ab_I k))] [] (ab_mk D L z) = some (.inl (some (.int (ab_I (ab_S (fun e => bb_R (D 501) e q) (D 501 3))))), (ab_mk D L z)) := by
  have hm := hw.1
  rw [ab_e98_4]
  by_cases hk : D 501 3 ≤ k
  · simp (discharger := first | assumption | exact True.intro | exact not_false | (refine ab_gK ?_; with_unfolding_all rfl) | exact ab_rgI (by omega) (by omega) | omega) only [ab_e98_0, ab_e98_1, ab_e98_2, ab_e98_3, ab_e98_5, ab_e98_6, ab_e98_9, ab_e98_10, ab_e98_11, ab_e98_14, ab_e98_15, ab_e98_16, ab_e98_17, ab_e98_18, ab_e98_21, ab_e98_22, ab_e98_23, ab_e98_26, ab_e98_29, ab_e98_30, ab_br_t, ab_br_f, ab_re_v (ab_zz _), ab_re_n (ab_zz _)]
    exact ab_fin (by rw [ha, show k = D 501 3 by omega]) rfl
  · simp (discharger := first | assumption | exact True.intro | exact not_false | (refine ab_gK ?_; with_unfolding_all rfl) | exact ab_rgI (by omega) (by omega) | omega) only [ab_y110, ab_e98_0, ab_e98_1, ab_e98_2, ab_e98_3, ab_e98_5, ab_e98_6, ab_e98_9, ab_e98_10, ab_e98_11, ab_e98_14, ab_e98_15, ab_e98_16, ab_e98_17, ab_e98_18, ab_e98_21, ab_e98_22, ab_e98_23, ab_e98_26, ab_e98_29, ab_e98_30, ab_br_t, ab_br_f, ab_re_v (ab_zz _), ab_re_n (ab_zz _)]
    exact bb_l98 hw q0 q1 (k + 1) _ (by omega) (by omega) (by rw [ab_S1 _ k0, ha])
termination_by (D 501 3 - k).toNat
decreasing_by all_goals omega

theorem bb_y98 {K : ab_Kt} {D : Nat → Int → Int} {L : Nat → Int → Int64} {z : ab_Z} {c : Int} (hw : bb_WS c (D 501)) {q : Int} (q0 : 0 ≤ q) (q1 : q < 51) : ab_cal K 98 [.ref 500, .int (ab_I q)] (ab_mk D L z) = some (.inl (some (.int (ab_I (ab_S (fun e => bb_R (D 501) e q) (D 501 3))))), (ab_mk D L z)) := by
  have hm := hw.1
  simp (discharger := first | assumption | exact True.intro | exact not_false | (refine ab_gK ?_; with_unfolding_all rfl) | exact ab_rgI (by omega) (by omega) | omega) only [ab_a98, ab_e98_0, ab_e98_1, ab_e98_2, ab_e98_3, ab_e98_5, ab_e98_6, ab_e98_9, ab_e98_10, ab_e98_11, ab_e98_14, ab_e98_15, ab_e98_16, ab_e98_17, ab_e98_18, ab_e98_21, ab_e98_22, ab_e98_23, ab_e98_26, ab_e98_29, ab_e98_30, ab_br_t, ab_br_f, ab_re_v (ab_zz _), ab_re_n (ab_zz _)]
  exact bb_l98 hw q0 q1 0 0 (by omega) (by omega) rfl

theorem bb_l99 {K : ab_Kt} {D : Nat → Int → Int} {L : Nat → Int → Int64} {z : ab_Z} {c : Int} (hw : bb_WS c (D 501)) (k a : Int) (k0 : 0 ≤ k) (k1 : k ≤ D 501 3) (ha : a = ab_S (fun e => if bb_R (D 501) e 2 = 4 then 1 else 0) k) : ab_ev K 99 4 [some (.ref 500), some (.int (ab_I a)), some (.int (ab_I k))] [] (ab_mk D L z) = some (.inl (some (.int (ab_I (ab_S (fun e => if bb_R (D 501) e 2 = 4 then 1 else 0) (D 501 3))))), (ab_mk D L z)) := by
  have hm := hw.1
  rw [ab_e99_4]
  by_cases hk : D 501 3 ≤ k
  · simp (discharger := first | assumption | exact True.intro | exact not_false | (refine ab_gK ?_; with_unfolding_all rfl) | exact ab_rgI (by omega) (by omega) | omega) only [ab_e99_0, ab_e99_1, ab_e99_2, ab_e99_3, ab_e99_5, ab_e99_6, ab_e99_9, ab_e99_10, ab_e99_11, ab_e99_14, ab_e99_15, ab_e99_16, ab_e99_17, ab_e99_18, ab_e99_21, ab_e99_22, ab_e99_25, ab_e99_26, ab_e99_29, ab_e99_30, ab_e99_31, ab_e99_32, ab_e99_35, ab_e99_38, ab_e99_39, ab_br_t, ab_br_f, ab_re_v (ab_zz _), ab_re_n (ab_zz _)]
    exact ab_fin (by rw [ha, show k = D 501 3 by omega]) rfl
  · have hn := bb_WB_n (hw.2.2.2.2.2.1 k k0 (by omega))
    simp (discharger := first | assumption | exact True.intro | exact not_false | (refine ab_gK ?_; with_unfolding_all rfl) | exact ab_rgI (by omega) (by omega) | omega) only [ab_y110, ab_e99_0, ab_e99_1, ab_e99_2, ab_e99_3, ab_e99_5, ab_e99_6, ab_e99_9, ab_e99_10, ab_e99_11, ab_e99_14, ab_e99_15, ab_e99_16, ab_e99_17, ab_e99_18, ab_e99_21, ab_e99_22, ab_e99_25, ab_e99_26, ab_e99_29, ab_e99_30, ab_e99_31, ab_e99_32, ab_e99_35, ab_e99_38, ab_e99_39, ab_br_t, ab_br_f, ab_re_v (ab_zz _), ab_re_n (ab_zz _)]
    iterate 1 (all_goals (try (refine ab_br_c (fun hc => ?_) (fun hc => ?_) <;> try simp (discharger := first | assumption | exact True.intro | exact not_false | (refine ab_gK ?_; with_unfolding_all rfl) | exact ab_rgI (by omega) (by omega) | omega) only [ab_y110, ab_e99_0, ab_e99_1, ab_e99_2, ab_e99_3, ab_e99_5, ab_e99_6, ab_e99_9, ab_e99_10, ab_e99_11, ab_e99_14, ab_e99_15, ab_e99_16, ab_e99_17, ab_e99_18, ab_e99_21, ab_e99_22, ab_e99_25, ab_e99_26, ab_e99_29, ab_e99_30, ab_e99_31, ab_e99_32, ab_e99_35, ab_e99_38, ab_e99_39, ab_br_t, ab_br_f, ab_re_v (ab_zz _), ab_re_n (ab_zz _)])))
    all_goals exact bb_l99 hw (k + 1) _ (by omega) (by omega) (by rw [ab_S1 _ k0, ha]; omega)
termination_by (D 501 3 - k).toNat
decreasing_by all_goals omega

theorem bb_y99 {K : ab_Kt} {D : Nat → Int → Int} {L : Nat → Int → Int64} {z : ab_Z} {c : Int} (hw : bb_WS c (D 501)) : ab_cal K 99 [.ref 500] (ab_mk D L z) = some (.inl (some (.int (ab_I (ab_S (fun e => if bb_R (D 501) e 2 = 4 then 1 else 0) (D 501 3))))), (ab_mk D L z)) := by
  have hm := hw.1
  simp (discharger := first | assumption | exact True.intro | exact not_false | (refine ab_gK ?_; with_unfolding_all rfl) | exact ab_rgI (by omega) (by omega) | omega) only [ab_a99, ab_e99_0, ab_e99_1, ab_e99_2, ab_e99_3, ab_e99_5, ab_e99_6, ab_e99_9, ab_e99_10, ab_e99_11, ab_e99_14, ab_e99_15, ab_e99_16, ab_e99_17, ab_e99_18, ab_e99_21, ab_e99_22, ab_e99_25, ab_e99_26, ab_e99_29, ab_e99_30, ab_e99_31, ab_e99_32, ab_e99_35, ab_e99_38, ab_e99_39, ab_br_t, ab_br_f, ab_re_v (ab_zz _), ab_re_n (ab_zz _)]
  exact bb_l99 hw 0 0 (by omega) (by omega) rfl

def bb_ahi (g : Int → Int) (a b : Int) : Int := if ab_rwrong g b < ab_rwrong g a ∨ (ab_rwrong g a = ab_rwrong g b ∧ (ab_rmiss g b < ab_rmiss g a ∨ (ab_rmiss g a = ab_rmiss g b ∧ a < b))) then 1 else 0
theorem ab_rwrong_rg {g : Int → Int} {e : Int} (h : ab_IR g e) : 0 ≤ ab_rwrong g e ∧ ab_rwrong g e ≤ ab_rall g e := ab_rwS_rg g e (ab_rall_rg h).1
theorem ab_rmiss_rg {g : Int → Int} {e : Int} (h : ab_IR g e) : 0 ≤ ab_rmiss g e ∧ ab_rmiss g e ≤ 96 := by
  have hn := ab_IR_n h
  have := ab_rmmS_rg g e hn.1.1
  unfold ab_rmiss
  omega
theorem bb_y120 {K : ab_Kt} {D : Nat → Int → Int} {L : Nat → Int → Int64} {z : ab_Z} {c : Int} (hw : bb_WS c (D 501)) {a b : Int} (a0 : 0 ≤ a) (a1 : a < D 501 3) (b0 : 0 ≤ b) (b1 : b < D 501 3) : ab_cal K 120 [.ref 500, .int (ab_I a), .int (ab_I b)] (ab_mk D L z) = some (.inl (some (.int (ab_I (bb_ahi (D 501) a b)))), (ab_mk D L z)) := by
  have hm := hw.1
  have hIa := bb_WS_IR hw a0 a1
  have hIb := bb_WS_IR hw b0 b1
  have a6 : a < 6 := by omega
  have b6 : b < 6 := by omega
  have ra := ab_rall_rg hIa
  have rb := ab_rall_rg hIb
  have wa := ab_rwrong_rg hIa
  have wb := ab_rwrong_rg hIb
  have ma := ab_rmiss_rg hIa
  have mb := ab_rmiss_rg hIb
  unfold bb_ahi
  simp (discharger := first | assumption | exact True.intro | exact not_false | (refine ab_gK ?_; with_unfolding_all rfl) | exact ab_rgI (by omega) (by omega) | omega) only [ab_a120, ab_y105 a0 a6 hIa, ab_y105 b0 b6 hIb, ab_y139 a0 a6 hIa, ab_y139 b0 b6 hIb, ab_e120_0, ab_e120_1, ab_e120_2, ab_e120_5, ab_e120_6, ab_e120_7, ab_e120_10, ab_e120_13, ab_e120_14, ab_e120_15, ab_e120_18, ab_e120_19, ab_e120_20, ab_e120_23, ab_e120_26, ab_e120_27, ab_e120_30, ab_e120_31, ab_e120_32, ab_e120_33, ab_e120_34, ab_e120_37, ab_e120_38, ab_e120_39, ab_e120_42, ab_e120_45, ab_e120_46, ab_e120_47, ab_e120_50, ab_e120_51, ab_e120_52, ab_e120_55, ab_e120_58, ab_e120_59, ab_e120_62, ab_e120_63, ab_e120_66, ab_e120_67, ab_e120_68, ab_e120_71, ab_e120_72, ab_e120_75, ab_e120_76, ab_br_t, ab_br_f, ab_re_v (ab_zz _), ab_re_n (ab_zz _)]
  iterate 4 (all_goals (try (refine ab_br_c (fun hc => ?_) (fun hc => ?_) <;> try simp (discharger := first | assumption | exact True.intro | exact not_false | (refine ab_gK ?_; with_unfolding_all rfl) | exact ab_rgI (by omega) (by omega) | omega) only [ab_a120, ab_y105 a0 a6 hIa, ab_y105 b0 b6 hIb, ab_y139 a0 a6 hIa, ab_y139 b0 b6 hIb, ab_e120_0, ab_e120_1, ab_e120_2, ab_e120_5, ab_e120_6, ab_e120_7, ab_e120_10, ab_e120_13, ab_e120_14, ab_e120_15, ab_e120_18, ab_e120_19, ab_e120_20, ab_e120_23, ab_e120_26, ab_e120_27, ab_e120_30, ab_e120_31, ab_e120_32, ab_e120_33, ab_e120_34, ab_e120_37, ab_e120_38, ab_e120_39, ab_e120_42, ab_e120_45, ab_e120_46, ab_e120_47, ab_e120_50, ab_e120_51, ab_e120_52, ab_e120_55, ab_e120_58, ab_e120_59, ab_e120_62, ab_e120_63, ab_e120_66, ab_e120_67, ab_e120_68, ab_e120_71, ab_e120_72, ab_e120_75, ab_e120_76, ab_br_t, ab_br_f, ab_re_v (ab_zz _), ab_re_n (ab_zz _)])))
  all_goals exact ab_fin (by omega) rfl

