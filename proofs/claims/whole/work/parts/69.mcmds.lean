/-! ===== the model carries a text out ===== -/
theorem bb_y25f {K : ab_Kt} {D : Nat → Int → Int} {L : Nat → Int → Int64} {z : ab_Z} {c : Int → Int} {n : Int} (hY : bb_Y D c n) (hfl : ¬ (bb_fl c n 61 0 0).1 = -1) : ∃ D', ab_cal K 25 [.ref 500] (ab_mk D L z) = some (.inl (some (.int (ab_I 0))), ab_mk D' L z) ∧ (∀ j, j ≠ 500 → j ≠ 507 → D' j = D j) ∧ (∀ k, k ≠ 7 → k ≠ 12 → k ≠ 13 → k ≠ 16 → k ≠ 18 → D' 500 k = D 500 k) ∧ D' 500 7 = 1 ∧ D' 500 12 = 0 ∧ D' 500 13 = (bb_fl c n 61 0 0).1 := by
  obtain ⟨T9, h1, h2⟩ := bb_y115 (K := K) (L := L) (z := z) hY
  rw [if_neg hfl, if_neg hfl] at h2
  obtain ⟨M, hM⟩ : ∃ M, M = bb_M D (bb_fl c n 61 0 0).1 (bb_fl c n 61 0 0).2 T9 := ⟨_, rfl⟩
  rw [← hM] at h2
  have m16 : M 500 16 = (bb_fl c n 61 0 0).1 := by rw [hM]; exact bb_M16
  have mr : ∀ j, j ≠ 500 → j ≠ 507 → M j = D j := fun j a b => by rw [hM]; exact bb_Mrow a b
  have m5 : ∀ k, k ≠ 16 → k ≠ 18 → M 500 k = D 500 k := fun k a b => by rw [hM]; exact bb_M5 a b
  refine ⟨ab_u (ab_u (ab_u M 500 13 (bb_fl c n 61 0 0).1) 500 12 0) 500 7 1, ?_, fun j a b => by rw [ab_u_row a, ab_u_row a, ab_u_row a, mr j a b], fun k a b d e f => by rw [ab_u_ne (.inr a), ab_u_ne (.inr b), ab_u_ne (.inr d), m5 k e f], ab_u_eq, by rw [ab_u_ne (.inr (by decide)), ab_u_eq], by rw [ab_u_ne (.inr (by decide)), ab_u_ne (.inr (by decide)), ab_u_eq]⟩
  simp (discharger := first | assumption | exact True.intro | exact not_false | (refine ab_gK ?_; with_unfolding_all rfl) | exact ab_rgI (by omega) (by omega) | omega) only [ab_a25, h2, m16, bb_y92_1, ab_e25_0, ab_e25_1, ab_e25_4, ab_e25_5, ab_e25_6, ab_e25_7, ab_e25_10, ab_e25_11, ab_e25_14, ab_e25_15, ab_e25_18, ab_e25_21, ab_e25_22, ab_e25_23, ab_e25_26, ab_e25_27, ab_e25_28, ab_e25_31, ab_e25_32, ab_e25_35, ab_e25_36, ab_e25_39, ab_e25_42, ab_e25_43, ab_e25_44, ab_e25_45, ab_e25_48, ab_e25_49, ab_e25_50, ab_e25_53, ab_e25_54, ab_e25_57, ab_e25_58, ab_e25_59, ab_e25_62, ab_e25_63, ab_e25_64, ab_e25_65, ab_e25_67, ab_e25_68, ab_e25_71, ab_e25_74, ab_e25_75, ab_e25_78, ab_e25_81, ab_e25_82, ab_e25_83, ab_e25_84, ab_e25_85, ab_e25_88, ab_e25_89, ab_e25_92, ab_e25_96, ab_e25_97, ab_e25_100, ab_e25_101, ab_e25_104, ab_e25_107, ab_e25_108, ab_e25_111, ab_e25_112, ab_e25_113, ab_e25_116, ab_e25_117, ab_e25_120, ab_e25_121, ab_e25_122, ab_e25_123, ab_e25_124, ab_e25_127, ab_e25_128, ab_e25_129, ab_e25_132, ab_e25_133, ab_e25_136, ab_e25_137, ab_e25_140, ab_e25_141, ab_e25_142, ab_e25_143, ab_e25_144, ab_e25_147, ab_e25_150, ab_e25_151, ab_e25_154, ab_br_t, ab_br_f, ab_re_v (ab_zz _), ab_re_n (ab_zz _)]

theorem bb_y25n {K : ab_Kt} {D : Nat → Int → Int} {L : Nat → Int → Int64} {z : ab_Z} {c : Int → Int} {n : Int} (hY : bb_Y D c n) {m w : Int} (hfl : bb_fl c n 61 0 0 = (-1, m)) (h5 : 0 ≤ D 500 5 ∧ D 500 5 ≤ 8) (hw : bb_WS w (D 501)) (hc : w + 24000 ≤ 50000000) {r d i : Int} (h : bb_ex c n 61 0 0 (D 501) = .inl (r, d, i)) (hi : 0 ≤ i ∧ i < m) : ∃ D', ab_cal K 25 [.ref 500] (ab_mk D L z) = some (.inl (some (.int (ab_I 0))), ab_mk D' L z) ∧ (∀ j, j ≠ 500 → j ≠ 501 → j ≠ 504 → j ≠ 507 → D' j = D j) ∧ (∀ k, k ≠ 6 → k ≠ 7 → k ≠ 8 → k ≠ 9 → k ≠ 10 → k ≠ 12 → k ≠ 13 → k ≠ 16 → k ≠ 18 → D' 500 k = D 500 k) ∧ D' 500 6 = 0 ∧ D' 500 7 = 2 ∧ D' 500 8 = r ∧ D' 500 9 = d ∧ D' 500 10 = i ∧ D' 500 12 = 0 ∧ D' 500 13 = -1 ∧ bb_eqg (D 501) (D' 501) := by
  obtain ⟨T9, h1, h2⟩ := bb_y115 (K := K) (L := L) (z := z) hY
  rw [hfl, if_pos rfl, if_pos rfl] at h2
  rw [show (-1, m).2 = m from rfl] at h2
  obtain ⟨n60, -, -⟩ := id hY
  obtain ⟨M, hM⟩ : ∃ M, M = bb_M D n m T9 := ⟨_, rfl⟩
  rw [← hM] at h2
  have mr : ∀ j, j ≠ 500 → j ≠ 507 → M j = D j := fun j a b => by rw [hM]; exact bb_Mrow a b
  have m5 : ∀ k, k ≠ 16 → k ≠ 18 → M 500 k = D 500 k := fun k a b => by rw [hM]; exact bb_M5 a b
  have m18 : M 500 18 = m := by rw [hM]; exact bb_M18
  have m507 : M 507 = T9 := by rw [hM]; exact bb_M507
  obtain ⟨M1, hM1⟩ : ∃ M1, M1 = ab_u (bb_row (bb_E (ab_u (ab_u M 500 13 (-1)) 500 12 0)) 504 (bb_cp (bb_E (ab_u (ab_u M 500 13 (-1)) 500 12 0) 504) (bb_E (ab_u (ab_u M 500 13 (-1)) 500 12 0) 501) 0 0 322)) 500 6 1 := ⟨_, rfl⟩
  have r1 : ∀ j, j ≠ 500 → j ≠ 504 → M1 j = M j := fun j a b => by rw [hM1, ab_u_row a, bb_row_ne b, show bb_E _ j = _ from ab_u_row a, ab_u_row a, ab_u_row a]
  have f1 : ∀ k, k ≠ 6 → k ≠ 7 → k ≠ 12 → k ≠ 13 → M1 500 k = M 500 k := fun k a b e f => by rw [hM1, ab_u_ne (.inr a), bb_row_ne (by decide), bb_E_500 b, ab_u_ne (.inr e), ab_u_ne (.inr f)]
  have f6 : M1 500 6 = 1 := by rw [hM1, ab_u_eq]
  have f7 : M1 500 7 = 0 := by rw [hM1, ab_u_ne (.inr (by decide)), bb_row_ne (by decide)]; exact ab_u_eq
  have f12 : M1 500 12 = 0 := by rw [hM1, ab_u_ne (.inr (by decide)), bb_row_ne (by decide), bb_E_500 (by decide), ab_u_eq]
  have f13 : M1 500 13 = -1 := by rw [hM1, ab_u_ne (.inr (by decide)), bb_row_ne (by decide), bb_E_500 (by decide), ab_u_ne (.inr (by decide)), ab_u_eq]
  have x501 : M1 501 = D 501 := (r1 501 (by decide) (by decide)).trans (mr 501 (by decide) (by decide))
  have e501 : bb_E (ab_u (ab_u M 500 13 (-1)) 500 12 0) 501 = D 501 := by rw [bb_E_501, ab_u_row (by decide), ab_u_row (by decide), mr 501 (by decide) (by decide)]
  have x504 : bb_eqg (D 501) (M1 504) := by
    rw [hM1, ab_u_row (by decide), bb_row_eq, e501]
    have h9 := bb_cp_eqg (f := bb_E (ab_u (ab_u M 500 13 (-1)) 500 12 0) 504) (src := D 501) (at0 := 0)
    rwa [show (fun k => D 501 (0 + k)) = D 501 from funext (fun k => by rw [Int.zero_add])] at h9
  have mi1 : ab_mi 501 := .inl rfl
  have mi4 : ab_mi 504 := .inr (.inr (.inr rfl))
  have h58 : (0 : Int) + 322 ≤ ab_ml 501 := by show _ ≤ ((322 : Nat) : Int); omega
  have h59 : (0 : Int) + 322 ≤ ab_ml 504 := by show _ ≤ ((322 : Nat) : Int); omega
  obtain ⟨b1, b2⟩ := bb_fl_m n60.2 61 0 0 (Int.le_refl _) n60.1 (by omega) (by omega) hfl
  have g18 : M1 500 18 = m := (f1 18 (by decide) (by decide) (by decide) (by decide)).trans m18
  have g5 : M1 500 5 = D 500 5 := (f1 5 (by decide) (by decide) (by decide) (by decide)).trans (m5 5 (by decide) (by decide))
  have hT : bb_TT c n 61 0 0 (M1 507) := by rw [r1 507 (by decide) (by decide), m507]; exact h1
  obtain ⟨M2, l1, l2, l3, l4, l5, l6⟩ := bb_l25n (K := K) (L := L) (z := z) (s := 1) 61 0 0 0 w M1 n60.2 (Int.le_refl _) n60.1 (by omega) (Int.le_refl _) (by omega) hfl hT g18 f7 f6 (by rw [g5]; exact h5) (by rw [x501]; exact hw) (by omega) (by rw [x501]; exact h)
  obtain ⟨M3, hM3⟩ : ∃ M3, M3 = bb_row (ab_u M2 500 6 0) 501 (bb_cp (ab_u M2 500 6 0 501) (ab_u M2 500 6 0 504) 0 0 322) := ⟨_, rfl⟩
  have v7 : ab_u M2 500 6 0 500 7 = 1 := by rw [ab_u_ne (.inr (by decide))]; exact l4
  have s1 : ∀ j, j ≠ 500 → j ≠ 501 → M3 j = M2 j := fun j a b => by rw [hM3, bb_row_ne b, ab_u_row a]
  have s5 : ∀ k, k ≠ 6 → M3 500 k = M2 500 k := fun k a => by rw [hM3, bb_row_ne (by decide), ab_u_ne (.inr a)]
  have s6 : M3 500 6 = 0 := by rw [hM3, bb_row_ne (by decide), ab_u_eq]
  have s501 : bb_eqg (D 501) (M3 501) := by
    have h9 := bb_cp_eqg (f := ab_u M2 500 6 0 501) (src := ab_u M2 500 6 0 504) (at0 := 0)
    rw [show (fun k => ab_u M2 500 6 0 504 (0 + k)) = M1 504 from funext (fun k => by rw [Int.zero_add, ab_u_row (by decide), l2 504 (by decide) (by decide)])] at h9
    rw [hM3, bb_row_eq]
    exact fun k a b => (x504 k a b).trans (h9 k a b)
  have ei : i + 1 - 1 = i := by omega
  refine ⟨ab_u (ab_u M3 500 10 i) 500 7 2, ?_, fun j a b e f => ?_, fun k a b e f g p q s t => ?_, ?_, ab_u_eq, ?_, ?_, ?_, ?_, ?_, ?_⟩
  · simp (discharger := first | assumption | exact True.intro | exact not_false | (refine ab_gK ?_; with_unfolding_all rfl) | exact ab_rgI (by omega) (by omega) | omega) only [ab_a25, h2, bb_y92_0, bb_y93 mi1 mi4 (by decide) (by omega) h58 (by omega) h59, ← hM1, ab_e25_0, ab_e25_1, ab_e25_4, ab_e25_5, ab_e25_6, ab_e25_7, ab_e25_10, ab_e25_11, ab_e25_14, ab_e25_15, ab_e25_18, ab_e25_21, ab_e25_22, ab_e25_23, ab_e25_26, ab_e25_27, ab_e25_28, ab_e25_31, ab_e25_32, ab_e25_35, ab_e25_36, ab_e25_39, ab_e25_42, ab_e25_43, ab_e25_44, ab_e25_45, ab_e25_48, ab_e25_49, ab_e25_50, ab_e25_53, ab_e25_54, ab_e25_57, ab_e25_58, ab_e25_59, ab_e25_62, ab_e25_63, ab_e25_64, ab_e25_65, ab_e25_67, ab_e25_68, ab_e25_71, ab_e25_74, ab_e25_75, ab_e25_78, ab_e25_81, ab_e25_82, ab_e25_83, ab_e25_84, ab_e25_85, ab_e25_88, ab_e25_89, ab_e25_92, ab_e25_96, ab_e25_97, ab_e25_100, ab_e25_101, ab_e25_104, ab_e25_107, ab_e25_108, ab_e25_111, ab_e25_112, ab_e25_113, ab_e25_116, ab_e25_117, ab_e25_120, ab_e25_121, ab_e25_122, ab_e25_123, ab_e25_124, ab_e25_127, ab_e25_128, ab_e25_129, ab_e25_132, ab_e25_133, ab_e25_136, ab_e25_137, ab_e25_140, ab_e25_141, ab_e25_142, ab_e25_143, ab_e25_144, ab_e25_147, ab_e25_150, ab_e25_151, ab_e25_154, ab_br_t, ab_br_f, ab_re_v (ab_zz _), ab_re_n (ab_zz _)]
    rw [l1, ab_e25_95]
    simp (discharger := first | assumption | exact True.intro | exact not_false | (refine ab_gK ?_; with_unfolding_all rfl) | exact ab_rgI (by omega) (by omega) | omega) only [bb_y93 mi4 mi1 (by decide) (by omega) h59 (by omega) h58, v7, ← hM3, ei, ab_e25_0, ab_e25_1, ab_e25_4, ab_e25_5, ab_e25_6, ab_e25_7, ab_e25_10, ab_e25_11, ab_e25_14, ab_e25_15, ab_e25_18, ab_e25_21, ab_e25_22, ab_e25_23, ab_e25_26, ab_e25_27, ab_e25_28, ab_e25_31, ab_e25_32, ab_e25_35, ab_e25_36, ab_e25_39, ab_e25_42, ab_e25_43, ab_e25_44, ab_e25_45, ab_e25_48, ab_e25_49, ab_e25_50, ab_e25_53, ab_e25_54, ab_e25_57, ab_e25_58, ab_e25_59, ab_e25_62, ab_e25_63, ab_e25_64, ab_e25_65, ab_e25_67, ab_e25_68, ab_e25_71, ab_e25_74, ab_e25_75, ab_e25_78, ab_e25_81, ab_e25_82, ab_e25_83, ab_e25_84, ab_e25_85, ab_e25_88, ab_e25_89, ab_e25_92, ab_e25_96, ab_e25_97, ab_e25_100, ab_e25_101, ab_e25_104, ab_e25_107, ab_e25_108, ab_e25_111, ab_e25_112, ab_e25_113, ab_e25_116, ab_e25_117, ab_e25_120, ab_e25_121, ab_e25_122, ab_e25_123, ab_e25_124, ab_e25_127, ab_e25_128, ab_e25_129, ab_e25_132, ab_e25_133, ab_e25_136, ab_e25_137, ab_e25_140, ab_e25_141, ab_e25_142, ab_e25_143, ab_e25_144, ab_e25_147, ab_e25_150, ab_e25_151, ab_e25_154, ab_br_t, ab_br_f, ab_re_v (ab_zz _), ab_re_n (ab_zz _)]
  · rw [ab_u_row a, ab_u_row a, s1 j a b, l2 j a b, r1 j a e, mr j a f]
  · rw [ab_u_ne (.inr b), ab_u_ne (.inr g), s5 k a, l3 k b e f g, f1 k a b p q, m5 k s t]
  · rw [ab_u_ne (.inr (by decide)), ab_u_ne (.inr (by decide))]; exact s6
  · rw [ab_u_ne (.inr (by decide)), ab_u_ne (.inr (by decide)), s5 8 (by decide)]; exact l5
  · rw [ab_u_ne (.inr (by decide)), ab_u_ne (.inr (by decide)), s5 9 (by decide)]; exact l6
  · rw [ab_u_ne (.inr (by decide)), ab_u_eq]
  · rw [ab_u_ne (.inr (by decide)), ab_u_ne (.inr (by decide)), s5 12 (by decide), l3 12 (by decide) (by decide) (by decide) (by decide)]; exact f12
  · rw [ab_u_ne (.inr (by decide)), ab_u_ne (.inr (by decide)), s5 13 (by decide), l3 13 (by decide) (by decide) (by decide) (by decide)]; exact f13
  · rw [ab_u_row (by decide), ab_u_row (by decide)]; exact s501

theorem bb_F1_eqg {g g' : Int → Int} {F : Int → Int → Int} {m j : Int} (h : bb_eqg g g') : bb_eqg (bb_F1 g F m j) (bb_F1 g' F m j) := by
  intro k k0 k1
  unfold bb_F1
  by_cases h8 : m = 8
  · rw [if_pos h8, if_pos h8]
    by_cases j7 : j < 7
    · rw [if_pos j7, if_pos j7]
    · rw [if_neg j7, if_neg j7]; exact h k k0 k1
  · rw [if_neg h8, if_neg h8]
    by_cases jm : j < m
    · rw [if_pos jm, if_pos jm]
    · rw [if_neg jm, if_neg jm]; exact h k k0 k1
theorem bb_y25k {K : ab_Kt} {D : Nat → Int → Int} {L : Nat → Int → Int64} {z : ab_Z} {c : Int → Int} {n : Int} (hY : bb_Y D c n) {m w : Int} (hfl : bb_fl c n 61 0 0 = (-1, m)) (h5 : 0 ≤ D 500 5 ∧ D 500 5 ≤ 8) (hw : bb_WS w (D 501)) (hc : w + 24000 ≤ 50000000) {g' : Int → Int} (h : bb_ex c n 61 0 0 (D 501) = .inr g') : ∃ D', ab_cal K 25 [.ref 500] (ab_mk D L z) = some (.inl (some (.int (ab_I m))), ab_mk D' L z) ∧ (∀ j, j ≠ 500 → j ≠ 501 → j ≠ 502 → j ≠ 504 → j ≠ 507 → D' j = D j) ∧ (∀ k, k ≠ 5 → k ≠ 6 → k ≠ 7 → k ≠ 12 → k ≠ 13 → k ≠ 16 → k ≠ 18 → D' 500 k = D 500 k) ∧ D' 500 5 = bb_m1k (D 500 5) ∧ D' 500 6 = 0 ∧ D' 500 7 = 0 ∧ D' 500 12 = 0 ∧ D' 500 13 = -1 ∧ D' 501 = g' ∧ (∀ j, 0 ≤ j → j < bb_m1k (D 500 5) → bb_eqg (bb_F1 (D 501) (bb_Fk D) (D 500 5) j) (bb_Fk D' j)) := by
  obtain ⟨T9, h1, h2⟩ := bb_y115 (K := K) (L := L) (z := z) hY
  rw [hfl, if_pos rfl, if_pos rfl] at h2
  rw [show (-1, m).2 = m from rfl] at h2
  obtain ⟨n60, -, -⟩ := id hY
  obtain ⟨M, hM⟩ : ∃ M, M = bb_M D n m T9 := ⟨_, rfl⟩
  rw [← hM] at h2
  have mr : ∀ j, j ≠ 500 → j ≠ 507 → M j = D j := fun j a b => by rw [hM]; exact bb_Mrow a b
  have m5 : ∀ k, k ≠ 16 → k ≠ 18 → M 500 k = D 500 k := fun k a b => by rw [hM]; exact bb_M5 a b
  have m18 : M 500 18 = m := by rw [hM]; exact bb_M18
  have m507 : M 507 = T9 := by rw [hM]; exact bb_M507
  obtain ⟨M1, hM1⟩ : ∃ M1, M1 = ab_u (bb_row (bb_E (ab_u (ab_u M 500 13 (-1)) 500 12 0)) 504 (bb_cp (bb_E (ab_u (ab_u M 500 13 (-1)) 500 12 0) 504) (bb_E (ab_u (ab_u M 500 13 (-1)) 500 12 0) 501) 0 0 322)) 500 6 1 := ⟨_, rfl⟩
  have r1 : ∀ j, j ≠ 500 → j ≠ 504 → M1 j = M j := fun j a b => by rw [hM1, ab_u_row a, bb_row_ne b, show bb_E _ j = _ from ab_u_row a, ab_u_row a, ab_u_row a]
  have f1 : ∀ k, k ≠ 6 → k ≠ 7 → k ≠ 12 → k ≠ 13 → M1 500 k = M 500 k := fun k a b e f => by rw [hM1, ab_u_ne (.inr a), bb_row_ne (by decide), bb_E_500 b, ab_u_ne (.inr e), ab_u_ne (.inr f)]
  have f6 : M1 500 6 = 1 := by rw [hM1, ab_u_eq]
  have f7 : M1 500 7 = 0 := by rw [hM1, ab_u_ne (.inr (by decide)), bb_row_ne (by decide)]; exact ab_u_eq
  have f12 : M1 500 12 = 0 := by rw [hM1, ab_u_ne (.inr (by decide)), bb_row_ne (by decide), bb_E_500 (by decide), ab_u_eq]
  have f13 : M1 500 13 = -1 := by rw [hM1, ab_u_ne (.inr (by decide)), bb_row_ne (by decide), bb_E_500 (by decide), ab_u_ne (.inr (by decide)), ab_u_eq]
  have x501 : M1 501 = D 501 := (r1 501 (by decide) (by decide)).trans (mr 501 (by decide) (by decide))
  have e501 : bb_E (ab_u (ab_u M 500 13 (-1)) 500 12 0) 501 = D 501 := by rw [bb_E_501, ab_u_row (by decide), ab_u_row (by decide), mr 501 (by decide) (by decide)]
  have x504 : bb_eqg (D 501) (M1 504) := by
    rw [hM1, ab_u_row (by decide), bb_row_eq, e501]
    have h9 := bb_cp_eqg (f := bb_E (ab_u (ab_u M 500 13 (-1)) 500 12 0) 504) (src := D 501) (at0 := 0)
    rwa [show (fun k => D 501 (0 + k)) = D 501 from funext (fun k => by rw [Int.zero_add])] at h9
  have mi1 : ab_mi 501 := .inl rfl
  have mi4 : ab_mi 504 := .inr (.inr (.inr rfl))
  have h58 : (0 : Int) + 322 ≤ ab_ml 501 := by show _ ≤ ((322 : Nat) : Int); omega
  have h59 : (0 : Int) + 322 ≤ ab_ml 504 := by show _ ≤ ((322 : Nat) : Int); omega
  obtain ⟨b1, b2⟩ := bb_fl_m n60.2 61 0 0 (Int.le_refl _) n60.1 (by omega) (by omega) hfl
  have g18 : M1 500 18 = m := (f1 18 (by decide) (by decide) (by decide) (by decide)).trans m18
  have g5 : M1 500 5 = D 500 5 := (f1 5 (by decide) (by decide) (by decide) (by decide)).trans (m5 5 (by decide) (by decide))
  have hT : bb_TT c n 61 0 0 (M1 507) := by rw [r1 507 (by decide) (by decide), m507]; exact h1
  obtain ⟨M2, a9, l1, l2, l3, l4, l5⟩ := bb_l25k (K := K) (L := L) (z := z) (s := 1) 61 0 0 0 w M1 n60.2 (Int.le_refl _) n60.1 (by omega) (Int.le_refl _) (by omega) hfl hT g18 f7 f6 (by rw [g5]; exact h5) (by rw [x501]; exact hw) (by omega) (by rw [x501]; exact h)
  obtain ⟨M3, hM3⟩ : ∃ M3, M3 = ab_u M2 500 6 0 := ⟨_, rfl⟩
  have v7 : M3 500 7 = 0 := by rw [hM3, ab_u_ne (.inr (by decide))]; exact l4
  have v6 : M3 500 6 = 0 := by rw [hM3, ab_u_eq]
  have v5 : M3 500 5 = D 500 5 := by rw [hM3, ab_u_ne (.inr (by decide)), l3 5 (by decide)]; exact g5
  have vr : ∀ j, j ≠ 500 → M3 j = M2 j := fun j a => by rw [hM3, ab_u_row a]
  have vf : ∀ k, k ≠ 6 → M3 500 k = M2 500 k := fun k a => by rw [hM3, ab_u_ne (.inr a)]
  have v504 : bb_eqg (D 501) (M3 504) := by
    rw [vr 504 (by decide), l2 504 (by decide) (by decide)]
    exact x504
  have v502 : M3 502 = D 502 := by rw [vr 502 (by decide), l2 502 (by decide) (by decide), r1 502 (by decide) (by decide), mr 502 (by decide) (by decide)]
  have hk : bb_keep M3 504 = bb_row (ab_u (ab_u M3 500 7 0) 500 5 (if D 500 5 = 8 then 8 else D 500 5 + 1)) 502 (bb_kp (D 502) (M3 504) (D 500 5)) := by
    unfold bb_keep
    rw [v6, if_neg (by decide), v5, v502]
  have k5 : 0 ≤ M3 500 5 ∧ M3 500 5 ≤ 8 := by rw [v5]; exact h5
  have y17 := bb_y117 (K := K) (L := L) (z := z) (D := M3) (a := 504) (.inr rfl) k5 (.inl v6)
  obtain ⟨M4, hM4⟩ : ∃ M4, M4 = bb_keep M3 504 := ⟨_, rfl⟩
  rw [← hM4] at y17
  have w1 : ∀ j, j ≠ 500 → j ≠ 502 → M4 j = M3 j := fun j a b => by rw [hM4, hk, bb_row_ne b, ab_u_row a, ab_u_row a]
  have w5 : ∀ k, k ≠ 5 → k ≠ 7 → M4 500 k = M3 500 k := fun k a b => by rw [hM4, hk, bb_row_ne (by decide), ab_u_ne (.inr a), ab_u_ne (.inr b)]
  have w18 : M4 500 18 = m := by rw [w5 18 (by decide) (by decide), vf 18 (by decide), l3 18 (by decide)]; exact g18
  refine ⟨M4, ?_, fun j a b e f g => ?_, fun k a b e f g p q => ?_, ?_, ?_, ?_, ?_, ?_, ?_, fun j j0 j1 => ?_⟩
  · simp (discharger := first | assumption | exact True.intro | exact not_false | (refine ab_gK ?_; with_unfolding_all rfl) | exact ab_rgI (by omega) (by omega) | omega) only [ab_a25, h2, bb_y92_0, bb_y93 mi1 mi4 (by decide) (by omega) h58 (by omega) h59, ← hM1, ab_e25_0, ab_e25_1, ab_e25_4, ab_e25_5, ab_e25_6, ab_e25_7, ab_e25_10, ab_e25_11, ab_e25_14, ab_e25_15, ab_e25_18, ab_e25_21, ab_e25_22, ab_e25_23, ab_e25_26, ab_e25_27, ab_e25_28, ab_e25_31, ab_e25_32, ab_e25_35, ab_e25_36, ab_e25_39, ab_e25_42, ab_e25_43, ab_e25_44, ab_e25_45, ab_e25_48, ab_e25_49, ab_e25_50, ab_e25_53, ab_e25_54, ab_e25_57, ab_e25_58, ab_e25_59, ab_e25_62, ab_e25_63, ab_e25_64, ab_e25_65, ab_e25_67, ab_e25_68, ab_e25_71, ab_e25_74, ab_e25_75, ab_e25_78, ab_e25_81, ab_e25_82, ab_e25_83, ab_e25_84, ab_e25_85, ab_e25_88, ab_e25_89, ab_e25_92, ab_e25_96, ab_e25_97, ab_e25_100, ab_e25_101, ab_e25_104, ab_e25_107, ab_e25_108, ab_e25_111, ab_e25_112, ab_e25_113, ab_e25_116, ab_e25_117, ab_e25_120, ab_e25_121, ab_e25_122, ab_e25_123, ab_e25_124, ab_e25_127, ab_e25_128, ab_e25_129, ab_e25_132, ab_e25_133, ab_e25_136, ab_e25_137, ab_e25_140, ab_e25_141, ab_e25_142, ab_e25_143, ab_e25_144, ab_e25_147, ab_e25_150, ab_e25_151, ab_e25_154, ab_br_t, ab_br_f, ab_re_v (ab_zz _), ab_re_n (ab_zz _)]
    rw [l1, ab_e25_95]
    simp (discharger := first | assumption | exact True.intro | exact not_false | (refine ab_gK ?_; with_unfolding_all rfl) | exact ab_rgI (by omega) (by omega) | omega) only [v7, ← hM3, y17, w18, ab_e25_0, ab_e25_1, ab_e25_4, ab_e25_5, ab_e25_6, ab_e25_7, ab_e25_10, ab_e25_11, ab_e25_14, ab_e25_15, ab_e25_18, ab_e25_21, ab_e25_22, ab_e25_23, ab_e25_26, ab_e25_27, ab_e25_28, ab_e25_31, ab_e25_32, ab_e25_35, ab_e25_36, ab_e25_39, ab_e25_42, ab_e25_43, ab_e25_44, ab_e25_45, ab_e25_48, ab_e25_49, ab_e25_50, ab_e25_53, ab_e25_54, ab_e25_57, ab_e25_58, ab_e25_59, ab_e25_62, ab_e25_63, ab_e25_64, ab_e25_65, ab_e25_67, ab_e25_68, ab_e25_71, ab_e25_74, ab_e25_75, ab_e25_78, ab_e25_81, ab_e25_82, ab_e25_83, ab_e25_84, ab_e25_85, ab_e25_88, ab_e25_89, ab_e25_92, ab_e25_96, ab_e25_97, ab_e25_100, ab_e25_101, ab_e25_104, ab_e25_107, ab_e25_108, ab_e25_111, ab_e25_112, ab_e25_113, ab_e25_116, ab_e25_117, ab_e25_120, ab_e25_121, ab_e25_122, ab_e25_123, ab_e25_124, ab_e25_127, ab_e25_128, ab_e25_129, ab_e25_132, ab_e25_133, ab_e25_136, ab_e25_137, ab_e25_140, ab_e25_141, ab_e25_142, ab_e25_143, ab_e25_144, ab_e25_147, ab_e25_150, ab_e25_151, ab_e25_154, ab_br_t, ab_br_f, ab_re_v (ab_zz _), ab_re_n (ab_zz _)]
  · rw [w1 j a e, vr j a, l2 j a b, r1 j a f, mr j a g]
  · rw [w5 k a e, vf k b, l3 k e, f1 k b e f g, m5 k p q]
  · rw [hM4, hk, bb_row_ne (by decide), ab_u_eq]; rfl
  · rw [w5 6 (by decide) (by decide)]; exact v6
  · rw [hM4, hk, bb_row_ne (by decide), ab_u_ne (.inr (by decide)), ab_u_eq]
  · rw [w5 12 (by decide) (by decide), vf 12 (by decide), l3 12 (by decide)]; exact f12
  · rw [w5 13 (by decide) (by decide), vf 13 (by decide), l3 13 (by decide)]; exact f13
  · rw [w1 501 (by decide) (by decide), vr 501 (by decide)]; exact l5
  · have h9 := bb_kp_eq (f := D 502) (src := M3 504) h5 j0 j1
    have h8 := bb_F1_eqg (F := bb_Fk D) (m := D 500 5) (j := j) v504
    have h7 : bb_Fk M4 j = fun k => bb_kp (D 502) (M3 504) (D 500 5) (322 * j + k) := by
      unfold bb_Fk
      rw [hM4, hk, bb_row_eq]
    rw [h7]
    exact fun k a b => (h8 k a b).trans (h9 k a b)

