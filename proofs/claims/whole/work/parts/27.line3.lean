/-! ===== the line's row: numbers and characters added ===== -/
def bb_dg (x : Int) : List Int := if x < 10 then [48 + x] else if x < 100 then [48 + x / 10, 48 + x % 10] else [48 + x / 100, 48 + x / 10 % 10, 48 + x % 10]
def bb_s10 (x : Int) : Int := if x < 10 then 1 else if x < 100 then 2 else 3
theorem bb_dg_len (x : Int) : ((bb_dg x).length : Int) = bb_s10 x := by
  unfold bb_dg bb_s10
  split
  · rfl
  · split <;> rfl
theorem bb_dg_rg {x : Int} (h0 : 0 ≤ x) (h1 : x < 1000) : ∀ c ∈ bb_dg x, 0 ≤ c ∧ c < 128 := by
  unfold bb_dg
  split
  · intro c hc; simp at hc; omega
  · split
    · intro c hc; simp at hc; omega
    · intro c hc; simp at hc; omega
theorem bb_ct_push {f g : Int → Int} {n m c : Int} {l : List Int} (h : bb_ct f n l) (hm : m = n + 1) (h1 : ∀ j : Int, 0 ≤ j → j < n → g j = f j) (h2 : g n = c) : bb_ct g m (l ++ [c]) := by
  obtain ⟨a, b⟩ := h
  refine ⟨by rw [List.length_append]; simp; omega, fun j hj => ?_⟩
  rw [List.length_append] at hj
  simp at hj
  by_cases hjn : j < l.length
  · rw [h1 j (by omega) (by omega), b j hjn]
    simp [List.getD_eq_getElem?_getD, List.getElem?_append_left hjn]
  · have e : j = l.length := by omega
    subst e
    rw [show ((l.length : Nat) : Int) = n from a.symm, h2]
    simp [List.getD_eq_getElem?_getD]
theorem bb_ct_app {f g : Int → Int} {n m : Int} {l r : List Int} (h : bb_ct f n l) (hm : m = n + r.length) (h1 : ∀ j : Int, 0 ≤ j → j < n → g j = f j) (h2 : ∀ t : Nat, t < r.length → g (n + t) = r.getD t 0) : bb_ct g m (l ++ r) := by
  obtain ⟨a, b⟩ := h
  refine ⟨by rw [List.length_append]; omega, fun j hj => ?_⟩
  rw [List.length_append] at hj
  by_cases hjn : j < l.length
  · rw [h1 j (by omega) (by omega), b j hjn]
    simp [List.getD_eq_getElem?_getD, List.getElem?_append_left hjn]
  · have := h2 (j - l.length) (by omega)
    rw [show n + ((j - l.length : Nat) : Int) = (j : Int) by omega] at this
    rw [this, List.getD_eq_getElem?_getD, List.getD_eq_getElem?_getD, List.getElem?_append_right (by omega)]
section
variable {K : ab_Kt} {D : Nat → Int → Int} {L : Nat → Int → Int64} {z : ab_Z}
theorem bb_I_ndiv {a : Int} (h0 : -1000 < a) (h1 : a ≤ 0) : ab_I a / ab_I 100 = ab_I (-((-a) / 100)) := by
  have e1 : (ab_I a / ab_I 100).toInt = -((-a) / 100) := by
    rw [Int32.toInt_div, ab_I_toInt ⟨by omega, by omega⟩, ab_I_toInt ⟨by omega, by omega⟩]
    have e : a.tdiv 100 = -((-a) / 100) := by
      have e2 : (-(-a)).tdiv 100 = -((-a).tdiv 100) := Int.neg_tdiv _ _
      rw [Int.neg_neg] at e2
      rw [e2, Int.tdiv_eq_ediv_of_nonneg (by omega)]
    rw [e]
    exact Int.bmod_eq_of_le (by omega) (by omega)
  have h2 := ab_I_of (ab_I a / ab_I 100)
  rw [e1] at h2
  exact h2.symm
theorem bb_e268_31n {x0 x1 x2 x3 x4 x5 x6 : Option Value} {h : ab_H} {a : Int} (h0 : -1000 < a) (h1 : a ≤ 0) : ab_ev K 268 31 [x0, x1, x2, x3, x4, x5, x6] [.int (ab_I 100), .int (ab_I a)] h = ab_ev K 268 32 [x0, x1, x2, x3, x4, x5, x6] [.int (ab_I (-((-a) / 100)))] h := by
  refine ab_goI (op := ab_idiv 32) (congrFun ab_q268 31) ?_
  unfold ab_idiv
  dsimp only
  rw [if_pos (show ¬ ab_I 100 = 0 by decide +kernel), bb_I_ndiv h0 h1]
theorem bb_y269 {c : Int} (h0 : 0 ≤ c) (h1 : c ≤ 255) : ab_cal K 269 [.int (ab_I c)] (ab_mk D L z) = some (.inl (some (.int (ab_I (1)))), (ab_mk D L z)) := by
  simp (discharger := first | assumption | exact True.intro | exact not_false | (refine ab_gK ?_; with_unfolding_all rfl) | exact ab_rgI (by omega) (by omega) | omega) only [ab_a269, ab_e269_0, ab_e269_1, ab_e269_4, ab_e269_7, ab_e269_8, ab_e269_11, ab_e269_12, ab_br_t, ab_br_f, ab_re_v (ab_zz _), ab_re_n (ab_zz _)]

theorem bb_y266 (hc : D 497 1 = 0) : ab_cal K 266 [.ref 497] (ab_mk D L z) = some (.inl (some (.int (ab_I (1)))), (ab_mk D L z)) := by
  simp (discharger := first | assumption | exact True.intro | exact not_false | (refine ab_gK ?_; with_unfolding_all rfl) | exact ab_rgI (by omega) (by omega) | omega) only [ab_a266, bb_e266_0, ab_e266_3, ab_e266_6, ab_e266_7, ab_e266_10, ab_e266_13, ab_e266_14, ab_e266_17, ab_e266_18, ab_br_t, ab_br_f, ab_re_v (ab_zz _), ab_re_n (ab_zz _)]

theorem bb_y267 {x : Int} (h0 : 0 ≤ x) (h1 : x < 1000) : ab_cal K 267 [.int (ab_I x)] (ab_mk D L z) = some (.inl (some (.int (ab_I (bb_s10 x)))), (ab_mk D L z)) := by
  by_cases h2 : x < 10
  · have e : bb_s10 x = 1 := by unfold bb_s10; omega
    simp (discharger := first | assumption | exact True.intro | exact not_false | (refine ab_gK ?_; with_unfolding_all rfl) | exact ab_rgI (by omega) (by omega) | omega) only [ab_a267, ab_e267_0, ab_e267_1, ab_e267_2, ab_e267_3, ab_e267_6, ab_e267_7, ab_e267_8, ab_e267_9, ab_e267_10, ab_e267_11, ab_e267_13, ab_e267_14, ab_e267_15, ab_e267_16, ab_e267_17, ab_e267_19, ab_e267_22, ab_e267_23, ab_e267_24, ab_e267_27, ab_e267_28, ab_e267_29, ab_e267_30, ab_e267_31, ab_e267_33, ab_e267_34, ab_e267_35, ab_e267_36, ab_e267_39, ab_e267_42, ab_e267_44, ab_e267_45, ab_e267_46, ab_br_t, ab_br_f, ab_re_v (ab_zz _), ab_re_n (ab_zz _)]
    exact ab_fin (by omega) rfl
  · by_cases h3 : x < 100
    · have e : bb_s10 x = 2 := by unfold bb_s10; omega
      simp (discharger := first | assumption | exact True.intro | exact not_false | (refine ab_gK ?_; with_unfolding_all rfl) | exact ab_rgI (by omega) (by omega) | omega) only [ab_a267, ab_e267_0, ab_e267_1, ab_e267_2, ab_e267_3, ab_e267_6, ab_e267_7, ab_e267_8, ab_e267_9, ab_e267_10, ab_e267_11, ab_e267_13, ab_e267_14, ab_e267_15, ab_e267_16, ab_e267_17, ab_e267_19, ab_e267_22, ab_e267_23, ab_e267_24, ab_e267_27, ab_e267_28, ab_e267_29, ab_e267_30, ab_e267_31, ab_e267_33, ab_e267_34, ab_e267_35, ab_e267_36, ab_e267_39, ab_e267_42, ab_e267_44, ab_e267_45, ab_e267_46, ab_br_t, ab_br_f, ab_re_v (ab_zz _), ab_re_n (ab_zz _)]
      exact ab_fin (by omega) rfl
    · have e : bb_s10 x = 3 := by unfold bb_s10; omega
      simp (discharger := first | assumption | exact True.intro | exact not_false | (refine ab_gK ?_; with_unfolding_all rfl) | exact ab_rgI (by omega) (by omega) | omega) only [ab_a267, ab_e267_0, ab_e267_1, ab_e267_2, ab_e267_3, ab_e267_6, ab_e267_7, ab_e267_8, ab_e267_9, ab_e267_10, ab_e267_11, ab_e267_13, ab_e267_14, ab_e267_15, ab_e267_16, ab_e267_17, ab_e267_19, ab_e267_22, ab_e267_23, ab_e267_24, ab_e267_27, ab_e267_28, ab_e267_29, ab_e267_30, ab_e267_31, ab_e267_33, ab_e267_34, ab_e267_35, ab_e267_36, ab_e267_39, ab_e267_42, ab_e267_44, ab_e267_45, ab_e267_46, ab_br_t, ab_br_f, ab_re_v (ab_zz _), ab_re_n (ab_zz _)]
      exact ab_fin (by omega) rfl

theorem bb_y268 {x idx : Int} (hS : bb_SB D z) (h0 : 0 ≤ x) (h1 : x < 200) (h2 : bb_s10 x ≤ idx) (h3 : idx ≤ (z.2.1 : Nat)) : ∃ D', ab_cal K 268 [.int (ab_I x), .int (ab_I idx), .ref z.1] (ab_mk D L z) = some (.inl (some (.int (ab_I (idx - bb_s10 x)))), ab_mk D' L z) ∧ (∀ i, i ≠ z.1 → D' i = D i) ∧ (∀ j : Int, (j < idx - bb_s10 x ∨ idx ≤ j) → D' z.1 j = D z.1 j) ∧ ∀ t : Nat, t < (bb_dg x).length → D' z.1 (idx - bb_s10 x + t) = (bb_dg x).getD t 0 := by
  obtain ⟨hz, hc, hn, hl⟩ := bb_SB_c hS
  by_cases h4 : x < 10
  · have e : bb_s10 x = 1 := by unfold bb_s10; omega
    have ed : bb_dg x = [48 + x] := by unfold bb_dg; rw [if_pos h4]
    rw [e, ed]
    rw [e] at h2
    refine ⟨ab_u D z.1 (idx - 1) (48 + x), ?_, fun i hi => ab_u_row hi, fun j hj => ab_u_ne (.inr (by omega)), fun t ht => ?_⟩
    · simp (discharger := first | assumption | exact True.intro | exact not_false | (refine ab_gK ?_; with_unfolding_all rfl) | exact ab_rgI (by omega) (by omega) | omega) only [ab_a268, ab_e268_0, ab_e268_1, ab_e268_3, ab_e268_4, ab_e268_7, ab_e268_8, ab_e268_11, ab_e268_12, ab_e268_14, ab_e268_16, ab_e268_19, ab_e268_20, ab_e268_21, ab_e268_22, ab_e268_23, ab_e268_25, ab_e268_28, ab_e268_29, bb_e268_31n, ab_e268_32, ab_e268_33, ab_e268_34, ab_e268_36, ab_e268_37, ab_e268_38, ab_e268_39, ab_e268_41, ab_e268_42, ab_e268_43, ab_e268_44, ab_e268_47, bb_e268_49, ab_e268_52, bb_e268_54, bb_e268_55, ab_e268_56, ab_e268_57, ab_e268_60, bb_e268_62, ab_e268_65, bb_e268_67, bb_e268_68, ab_e268_69, ab_e268_72, ab_e268_73, ab_e268_76, bb_e268_78, ab_e268_81, ab_e268_82, bb_e268_83, bb_e268_84, ab_e268_85, ab_e268_86, ab_e268_88, ab_e268_91, ab_e268_92, ab_e268_95, bb_e268_97, ab_e268_100, ab_e268_101, bb_e268_102, bb_e268_103, ab_e268_104, ab_e268_106, ab_e268_109, ab_e268_110, ab_e268_113, ab_e268_115, bb_e268_117, ab_e268_118, ab_e268_120, ab_br_t, ab_br_f, ab_re_v (ab_zz _), ab_re_n (ab_zz _)]
      exact ab_fin (by omega) (by congr 1; all_goals first | rfl | omega | (congr 1; all_goals first | rfl | omega | (congr 1; all_goals first | rfl | omega | (congr 1; all_goals first | rfl | omega))))
    · have : t = 0 := by simp at ht; omega
      subst this
      rw [ab_u_if, if_pos (by omega)]
      rfl
  · by_cases h5 : x < 100
    · have e : bb_s10 x = 2 := by unfold bb_s10; omega
      have ed : bb_dg x = [48 + x / 10, 48 + x % 10] := by unfold bb_dg; rw [if_neg h4, if_pos h5]
      rw [e, ed]
      rw [e] at h2
      refine ⟨ab_u (ab_u D z.1 (idx - 1) (48 + x % 10)) z.1 (idx - 2) (48 + x / 10), ?_, fun i hi => (ab_u_row hi).trans (ab_u_row hi), fun j hj => (ab_u_ne (.inr (by omega))).trans (ab_u_ne (.inr (by omega))), fun t ht => ?_⟩
      · simp (discharger := first | assumption | exact True.intro | exact not_false | (refine ab_gK ?_; with_unfolding_all rfl) | exact ab_rgI (by omega) (by omega) | omega) only [ab_a268, ab_e268_0, ab_e268_1, ab_e268_3, ab_e268_4, ab_e268_7, ab_e268_8, ab_e268_11, ab_e268_12, ab_e268_14, ab_e268_16, ab_e268_19, ab_e268_20, ab_e268_21, ab_e268_22, ab_e268_23, ab_e268_25, ab_e268_28, ab_e268_29, bb_e268_31n, ab_e268_32, ab_e268_33, ab_e268_34, ab_e268_36, ab_e268_37, ab_e268_38, ab_e268_39, ab_e268_41, ab_e268_42, ab_e268_43, ab_e268_44, ab_e268_47, bb_e268_49, ab_e268_52, bb_e268_54, bb_e268_55, ab_e268_56, ab_e268_57, ab_e268_60, bb_e268_62, ab_e268_65, bb_e268_67, bb_e268_68, ab_e268_69, ab_e268_72, ab_e268_73, ab_e268_76, bb_e268_78, ab_e268_81, ab_e268_82, bb_e268_83, bb_e268_84, ab_e268_85, ab_e268_86, ab_e268_88, ab_e268_91, ab_e268_92, ab_e268_95, bb_e268_97, ab_e268_100, ab_e268_101, bb_e268_102, bb_e268_103, ab_e268_104, ab_e268_106, ab_e268_109, ab_e268_110, ab_e268_113, ab_e268_115, bb_e268_117, ab_e268_118, ab_e268_120, ab_br_t, ab_br_f, ab_re_v (ab_zz _), ab_re_n (ab_zz _)]
        exact ab_fin (by omega) (by congr 1; all_goals first | rfl | omega | (congr 1; all_goals first | rfl | omega | (congr 1; all_goals first | rfl | omega | (congr 1; all_goals first | rfl | omega))))
      · have : t = 0 ∨ t = 1 := by simp at ht; omega
        rcases this with rfl | rfl
        · rw [ab_u_if, if_pos (by omega)]
          rfl
        · rw [ab_u_ne (.inr (by omega)), ab_u_if, if_pos (by omega)]
          rfl
    · have e : bb_s10 x = 3 := by unfold bb_s10; omega
      have ed : bb_dg x = [48 + x / 100, 48 + x / 10 % 10, 48 + x % 10] := by unfold bb_dg; rw [if_neg h4, if_neg h5]
      rw [e, ed]
      rw [e] at h2
      refine ⟨ab_u (ab_u (ab_u D z.1 (idx - 1) (48 + x % 10)) z.1 (idx - 2) (48 + x / 10 % 10)) z.1 (idx - 3) (48 + x / 100), ?_, fun i hi => ((ab_u_row hi).trans (ab_u_row hi)).trans (ab_u_row hi), fun j hj => ((ab_u_ne (.inr (by omega))).trans (ab_u_ne (.inr (by omega)))).trans (ab_u_ne (.inr (by omega))), fun t ht => ?_⟩
      · simp (discharger := first | assumption | exact True.intro | exact not_false | (refine ab_gK ?_; with_unfolding_all rfl) | exact ab_rgI (by omega) (by omega) | omega) only [ab_a268, ab_e268_0, ab_e268_1, ab_e268_3, ab_e268_4, ab_e268_7, ab_e268_8, ab_e268_11, ab_e268_12, ab_e268_14, ab_e268_16, ab_e268_19, ab_e268_20, ab_e268_21, ab_e268_22, ab_e268_23, ab_e268_25, ab_e268_28, ab_e268_29, bb_e268_31n, ab_e268_32, ab_e268_33, ab_e268_34, ab_e268_36, ab_e268_37, ab_e268_38, ab_e268_39, ab_e268_41, ab_e268_42, ab_e268_43, ab_e268_44, ab_e268_47, bb_e268_49, ab_e268_52, bb_e268_54, bb_e268_55, ab_e268_56, ab_e268_57, ab_e268_60, bb_e268_62, ab_e268_65, bb_e268_67, bb_e268_68, ab_e268_69, ab_e268_72, ab_e268_73, ab_e268_76, bb_e268_78, ab_e268_81, ab_e268_82, bb_e268_83, bb_e268_84, ab_e268_85, ab_e268_86, ab_e268_88, ab_e268_91, ab_e268_92, ab_e268_95, bb_e268_97, ab_e268_100, ab_e268_101, bb_e268_102, bb_e268_103, ab_e268_104, ab_e268_106, ab_e268_109, ab_e268_110, ab_e268_113, ab_e268_115, bb_e268_117, ab_e268_118, ab_e268_120, ab_br_t, ab_br_f, ab_re_v (ab_zz _), ab_re_n (ab_zz _)]
        exact ab_fin (by omega) (by congr 1; all_goals first | rfl | omega | (congr 1; all_goals first | rfl | omega | (congr 1; all_goals first | rfl | omega | (congr 1; all_goals first | rfl | omega))))
      · have : t = 0 ∨ t = 1 ∨ t = 2 := by simp at ht; omega
        rcases this with rfl | rfl | rfl
        · rw [ab_u_if, if_pos (by omega)]
          rfl
        · rw [ab_u_ne (.inr (by omega)), ab_u_if, if_pos (by omega)]
          rfl
        · rw [ab_u_ne (.inr (by omega)), ab_u_ne (.inr (by omega)), ab_u_if, if_pos (by omega)]
          rfl
end
