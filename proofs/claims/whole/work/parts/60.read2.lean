/-! ===== a command of the text ===== -/
section
variable {K : ab_Kt} {D : Nat → Int → Int} {L : Nat → Int → Int64} {z : ab_Z} {h : ab_H} {x0 x1 x2 : Option Value} {st : List Value} {i : Nat}
theorem bb_e240_43 (hi : i < 6) : ab_ev K 240 43 [x0, x1, x2] [.ref (4 + 2 * i)] h = ab_re K 240 43 [x0, x1, x2] [] 46 h (ab_cal K 271 [.ref (4 + 2 * i)] h) := ab_goC (op := ab_callT 271 0 46) (congrFun ab_q240 43) (bb_oCallT hi rfl (Nat.le_of_ble_eq_true rfl) rfl)
theorem bb_e240_65 {s1 : Value} (hi : i < 6) : ab_ev K 240 65 [x0, x1, x2] [.ref (4 + 2 * i), s1] h = ab_re K 240 65 [x0, x1, x2] [s1] 68 h (ab_cal K 272 [.ref (4 + 2 * i)] h) := ab_goC (op := ab_callT 272 0 68) (congrFun ab_q240 65) (bb_oCallT hi rfl (Nat.le_of_ble_eq_true rfl) rfl)
theorem bb_e240_74 {s0 s1 : Value} (hi : i < 6) : ab_ev K 240 74 [x0, x1, x2] [s0, .ref (4 + 2 * i), s1] h = ab_re K 240 74 [x0, x1, x2] [s1] 77 h (ab_cal K 273 [.ref (4 + 2 * i), s0] h) := ab_goC (op := ab_callT 273 1 77) (congrFun ab_q240 74) (bb_oCallT hi rfl (Nat.le_of_ble_eq_true rfl) rfl)
end
theorem bb_y270_103 {K : ab_Kt} {D : Nat → Int → Int} {L : Nat → Int → Int64} {z : ab_Z} : ab_cal K 270 [.int (ab_I 103)] (ab_mk D L z) = some (.inl (some (.ref (4 + 2 * 0))), (ab_mk D L z)) := by
  simp (discharger := first | assumption | exact True.intro | exact not_false | (refine ab_gK ?_; with_unfolding_all rfl) | exact ab_rgI (by omega) (by omega) | omega) only [ab_a270, ab_e270_0, ab_e270_1c100, ab_e270_1c101, ab_e270_1c102, ab_e270_1c103, ab_e270_1c104, ab_e270_1c105, ab_e270_1c106, ab_e270_1c107, ab_e270_1c108, ab_e270_1c109, ab_e270_1c110, ab_e270_1c111, ab_e270_1c112, ab_e270_1c113, ab_e270_1c114, ab_e270_1c115, ab_e270_1c116, ab_e270_1c117, ab_e270_1c118, ab_e270_1c119, ab_e270_1d, bb_e270_96, ab_e270_98, bb_e270_99, ab_e270_101, bb_e270_102, ab_e270_104, bb_e270_105, ab_e270_107, bb_e270_108, ab_e270_110, bb_e270_111, ab_e270_113, bb_e270_114, ab_e270_116, bb_e270_117, ab_e270_119, bb_e270_120, ab_e270_122, bb_e270_123, ab_e270_125, ab_br_t, ab_br_f, ab_re_v (ab_zz _), ab_re_n (ab_zz _)]

theorem bb_y270_115 {K : ab_Kt} {D : Nat → Int → Int} {L : Nat → Int → Int64} {z : ab_Z} : ab_cal K 270 [.int (ab_I 115)] (ab_mk D L z) = some (.inl (some (.ref (4 + 2 * 1))), (ab_mk D L z)) := by
  simp (discharger := first | assumption | exact True.intro | exact not_false | (refine ab_gK ?_; with_unfolding_all rfl) | exact ab_rgI (by omega) (by omega) | omega) only [ab_a270, ab_e270_0, ab_e270_1c100, ab_e270_1c101, ab_e270_1c102, ab_e270_1c103, ab_e270_1c104, ab_e270_1c105, ab_e270_1c106, ab_e270_1c107, ab_e270_1c108, ab_e270_1c109, ab_e270_1c110, ab_e270_1c111, ab_e270_1c112, ab_e270_1c113, ab_e270_1c114, ab_e270_1c115, ab_e270_1c116, ab_e270_1c117, ab_e270_1c118, ab_e270_1c119, ab_e270_1d, bb_e270_96, ab_e270_98, bb_e270_99, ab_e270_101, bb_e270_102, ab_e270_104, bb_e270_105, ab_e270_107, bb_e270_108, ab_e270_110, bb_e270_111, ab_e270_113, bb_e270_114, ab_e270_116, bb_e270_117, ab_e270_119, bb_e270_120, ab_e270_122, bb_e270_123, ab_e270_125, ab_br_t, ab_br_f, ab_re_v (ab_zz _), ab_re_n (ab_zz _)]

theorem bb_y270_117 {K : ab_Kt} {D : Nat → Int → Int} {L : Nat → Int → Int64} {z : ab_Z} : ab_cal K 270 [.int (ab_I 117)] (ab_mk D L z) = some (.inl (some (.ref (4 + 2 * 1))), (ab_mk D L z)) := by
  simp (discharger := first | assumption | exact True.intro | exact not_false | (refine ab_gK ?_; with_unfolding_all rfl) | exact ab_rgI (by omega) (by omega) | omega) only [ab_a270, ab_e270_0, ab_e270_1c100, ab_e270_1c101, ab_e270_1c102, ab_e270_1c103, ab_e270_1c104, ab_e270_1c105, ab_e270_1c106, ab_e270_1c107, ab_e270_1c108, ab_e270_1c109, ab_e270_1c110, ab_e270_1c111, ab_e270_1c112, ab_e270_1c113, ab_e270_1c114, ab_e270_1c115, ab_e270_1c116, ab_e270_1c117, ab_e270_1c118, ab_e270_1c119, ab_e270_1d, bb_e270_96, ab_e270_98, bb_e270_99, ab_e270_101, bb_e270_102, ab_e270_104, bb_e270_105, ab_e270_107, bb_e270_108, ab_e270_110, bb_e270_111, ab_e270_113, bb_e270_114, ab_e270_116, bb_e270_117, ab_e270_119, bb_e270_120, ab_e270_122, bb_e270_123, ab_e270_125, ab_br_t, ab_br_f, ab_re_v (ab_zz _), ab_re_n (ab_zz _)]

theorem bb_y270_116 {K : ab_Kt} {D : Nat → Int → Int} {L : Nat → Int → Int64} {z : ab_Z} : ab_cal K 270 [.int (ab_I 116)] (ab_mk D L z) = some (.inl (some (.ref (4 + 2 * 1))), (ab_mk D L z)) := by
  simp (discharger := first | assumption | exact True.intro | exact not_false | (refine ab_gK ?_; with_unfolding_all rfl) | exact ab_rgI (by omega) (by omega) | omega) only [ab_a270, ab_e270_0, ab_e270_1c100, ab_e270_1c101, ab_e270_1c102, ab_e270_1c103, ab_e270_1c104, ab_e270_1c105, ab_e270_1c106, ab_e270_1c107, ab_e270_1c108, ab_e270_1c109, ab_e270_1c110, ab_e270_1c111, ab_e270_1c112, ab_e270_1c113, ab_e270_1c114, ab_e270_1c115, ab_e270_1c116, ab_e270_1c117, ab_e270_1c118, ab_e270_1c119, ab_e270_1d, bb_e270_96, ab_e270_98, bb_e270_99, ab_e270_101, bb_e270_102, ab_e270_104, bb_e270_105, ab_e270_107, bb_e270_108, ab_e270_110, bb_e270_111, ab_e270_113, bb_e270_114, ab_e270_116, bb_e270_117, ab_e270_119, bb_e270_120, ab_e270_122, bb_e270_123, ab_e270_125, ab_br_t, ab_br_f, ab_re_v (ab_zz _), ab_re_n (ab_zz _)]

theorem bb_y270_100 {K : ab_Kt} {D : Nat → Int → Int} {L : Nat → Int → Int64} {z : ab_Z} : ab_cal K 270 [.int (ab_I 100)] (ab_mk D L z) = some (.inl (some (.ref (4 + 2 * 1))), (ab_mk D L z)) := by
  simp (discharger := first | assumption | exact True.intro | exact not_false | (refine ab_gK ?_; with_unfolding_all rfl) | exact ab_rgI (by omega) (by omega) | omega) only [ab_a270, ab_e270_0, ab_e270_1c100, ab_e270_1c101, ab_e270_1c102, ab_e270_1c103, ab_e270_1c104, ab_e270_1c105, ab_e270_1c106, ab_e270_1c107, ab_e270_1c108, ab_e270_1c109, ab_e270_1c110, ab_e270_1c111, ab_e270_1c112, ab_e270_1c113, ab_e270_1c114, ab_e270_1c115, ab_e270_1c116, ab_e270_1c117, ab_e270_1c118, ab_e270_1c119, ab_e270_1d, bb_e270_96, ab_e270_98, bb_e270_99, ab_e270_101, bb_e270_102, ab_e270_104, bb_e270_105, ab_e270_107, bb_e270_108, ab_e270_110, bb_e270_111, ab_e270_113, bb_e270_114, ab_e270_116, bb_e270_117, ab_e270_119, bb_e270_120, ab_e270_122, bb_e270_123, ab_e270_125, ab_br_t, ab_br_f, ab_re_v (ab_zz _), ab_re_n (ab_zz _)]

theorem bb_y270_108 {K : ab_Kt} {D : Nat → Int → Int} {L : Nat → Int → Int64} {z : ab_Z} : ab_cal K 270 [.int (ab_I 108)] (ab_mk D L z) = some (.inl (some (.ref (4 + 2 * 2))), (ab_mk D L z)) := by
  simp (discharger := first | assumption | exact True.intro | exact not_false | (refine ab_gK ?_; with_unfolding_all rfl) | exact ab_rgI (by omega) (by omega) | omega) only [ab_a270, ab_e270_0, ab_e270_1c100, ab_e270_1c101, ab_e270_1c102, ab_e270_1c103, ab_e270_1c104, ab_e270_1c105, ab_e270_1c106, ab_e270_1c107, ab_e270_1c108, ab_e270_1c109, ab_e270_1c110, ab_e270_1c111, ab_e270_1c112, ab_e270_1c113, ab_e270_1c114, ab_e270_1c115, ab_e270_1c116, ab_e270_1c117, ab_e270_1c118, ab_e270_1c119, ab_e270_1d, bb_e270_96, ab_e270_98, bb_e270_99, ab_e270_101, bb_e270_102, ab_e270_104, bb_e270_105, ab_e270_107, bb_e270_108, ab_e270_110, bb_e270_111, ab_e270_113, bb_e270_114, ab_e270_116, bb_e270_117, ab_e270_119, bb_e270_120, ab_e270_122, bb_e270_123, ab_e270_125, ab_br_t, ab_br_f, ab_re_v (ab_zz _), ab_re_n (ab_zz _)]

theorem bb_y270_112 {K : ab_Kt} {D : Nat → Int → Int} {L : Nat → Int → Int64} {z : ab_Z} : ab_cal K 270 [.int (ab_I 112)] (ab_mk D L z) = some (.inl (some (.ref (4 + 2 * 2))), (ab_mk D L z)) := by
  simp (discharger := first | assumption | exact True.intro | exact not_false | (refine ab_gK ?_; with_unfolding_all rfl) | exact ab_rgI (by omega) (by omega) | omega) only [ab_a270, ab_e270_0, ab_e270_1c100, ab_e270_1c101, ab_e270_1c102, ab_e270_1c103, ab_e270_1c104, ab_e270_1c105, ab_e270_1c106, ab_e270_1c107, ab_e270_1c108, ab_e270_1c109, ab_e270_1c110, ab_e270_1c111, ab_e270_1c112, ab_e270_1c113, ab_e270_1c114, ab_e270_1c115, ab_e270_1c116, ab_e270_1c117, ab_e270_1c118, ab_e270_1c119, ab_e270_1d, bb_e270_96, ab_e270_98, bb_e270_99, ab_e270_101, bb_e270_102, ab_e270_104, bb_e270_105, ab_e270_107, bb_e270_108, ab_e270_110, bb_e270_111, ab_e270_113, bb_e270_114, ab_e270_116, bb_e270_117, ab_e270_119, bb_e270_120, ab_e270_122, bb_e270_123, ab_e270_125, ab_br_t, ab_br_f, ab_re_v (ab_zz _), ab_re_n (ab_zz _)]

theorem bb_y270_101 {K : ab_Kt} {D : Nat → Int → Int} {L : Nat → Int → Int64} {z : ab_Z} : ab_cal K 270 [.int (ab_I 101)] (ab_mk D L z) = some (.inl (some (.ref (4 + 2 * 3))), (ab_mk D L z)) := by
  simp (discharger := first | assumption | exact True.intro | exact not_false | (refine ab_gK ?_; with_unfolding_all rfl) | exact ab_rgI (by omega) (by omega) | omega) only [ab_a270, ab_e270_0, ab_e270_1c100, ab_e270_1c101, ab_e270_1c102, ab_e270_1c103, ab_e270_1c104, ab_e270_1c105, ab_e270_1c106, ab_e270_1c107, ab_e270_1c108, ab_e270_1c109, ab_e270_1c110, ab_e270_1c111, ab_e270_1c112, ab_e270_1c113, ab_e270_1c114, ab_e270_1c115, ab_e270_1c116, ab_e270_1c117, ab_e270_1c118, ab_e270_1c119, ab_e270_1d, bb_e270_96, ab_e270_98, bb_e270_99, ab_e270_101, bb_e270_102, ab_e270_104, bb_e270_105, ab_e270_107, bb_e270_108, ab_e270_110, bb_e270_111, ab_e270_113, bb_e270_114, ab_e270_116, bb_e270_117, ab_e270_119, bb_e270_120, ab_e270_122, bb_e270_123, ab_e270_125, ab_br_t, ab_br_f, ab_re_v (ab_zz _), ab_re_n (ab_zz _)]

theorem bb_y270_119 {K : ab_Kt} {D : Nat → Int → Int} {L : Nat → Int → Int64} {z : ab_Z} : ab_cal K 270 [.int (ab_I 119)] (ab_mk D L z) = some (.inl (some (.ref (4 + 2 * 4))), (ab_mk D L z)) := by
  simp (discharger := first | assumption | exact True.intro | exact not_false | (refine ab_gK ?_; with_unfolding_all rfl) | exact ab_rgI (by omega) (by omega) | omega) only [ab_a270, ab_e270_0, ab_e270_1c100, ab_e270_1c101, ab_e270_1c102, ab_e270_1c103, ab_e270_1c104, ab_e270_1c105, ab_e270_1c106, ab_e270_1c107, ab_e270_1c108, ab_e270_1c109, ab_e270_1c110, ab_e270_1c111, ab_e270_1c112, ab_e270_1c113, ab_e270_1c114, ab_e270_1c115, ab_e270_1c116, ab_e270_1c117, ab_e270_1c118, ab_e270_1c119, ab_e270_1d, bb_e270_96, ab_e270_98, bb_e270_99, ab_e270_101, bb_e270_102, ab_e270_104, bb_e270_105, ab_e270_107, bb_e270_108, ab_e270_110, bb_e270_111, ab_e270_113, bb_e270_114, ab_e270_116, bb_e270_117, ab_e270_119, bb_e270_120, ab_e270_122, bb_e270_123, ab_e270_125, ab_br_t, ab_br_f, ab_re_v (ab_zz _), ab_re_n (ab_zz _)]

theorem bb_y270_d {K : ab_Kt} {D : Nat → Int → Int} {L : Nat → Int → Int64} {z : ab_Z} {a : Int} (ha : ab_rg a) (h103 : a ≠ 103) (h115 : a ≠ 115) (h117 : a ≠ 117) (h116 : a ≠ 116) (h100 : a ≠ 100) (h108 : a ≠ 108) (h112 : a ≠ 112) (h101 : a ≠ 101) (h119 : a ≠ 119) : ab_cal K 270 [.int (ab_I a)] (ab_mk D L z) = some (.inl (some (.ref (4 + 2 * 5))), (ab_mk D L z)) := by
  by_cases hr : 100 ≤ a ∧ a < 120
  · have hc : a = 102 ∨ a = 104 ∨ a = 105 ∨ a = 106 ∨ a = 107 ∨ a = 109 ∨ a = 110 ∨ a = 111 ∨ a = 113 ∨ a = 114 ∨ a = 118 := by omega
    rcases hc with rfl | rfl | rfl | rfl | rfl | rfl | rfl | rfl | rfl | rfl | rfl
    · simp (discharger := first | assumption | exact True.intro | exact not_false | (refine ab_gK ?_; with_unfolding_all rfl) | exact ab_rgI (by omega) (by omega) | omega) only [ab_a270, ab_e270_0, ab_e270_1c100, ab_e270_1c101, ab_e270_1c102, ab_e270_1c103, ab_e270_1c104, ab_e270_1c105, ab_e270_1c106, ab_e270_1c107, ab_e270_1c108, ab_e270_1c109, ab_e270_1c110, ab_e270_1c111, ab_e270_1c112, ab_e270_1c113, ab_e270_1c114, ab_e270_1c115, ab_e270_1c116, ab_e270_1c117, ab_e270_1c118, ab_e270_1c119, ab_e270_1d, bb_e270_96, ab_e270_98, bb_e270_99, ab_e270_101, bb_e270_102, ab_e270_104, bb_e270_105, ab_e270_107, bb_e270_108, ab_e270_110, bb_e270_111, ab_e270_113, bb_e270_114, ab_e270_116, bb_e270_117, ab_e270_119, bb_e270_120, ab_e270_122, bb_e270_123, ab_e270_125, ab_br_t, ab_br_f, ab_re_v (ab_zz _), ab_re_n (ab_zz _)]
    · simp (discharger := first | assumption | exact True.intro | exact not_false | (refine ab_gK ?_; with_unfolding_all rfl) | exact ab_rgI (by omega) (by omega) | omega) only [ab_a270, ab_e270_0, ab_e270_1c100, ab_e270_1c101, ab_e270_1c102, ab_e270_1c103, ab_e270_1c104, ab_e270_1c105, ab_e270_1c106, ab_e270_1c107, ab_e270_1c108, ab_e270_1c109, ab_e270_1c110, ab_e270_1c111, ab_e270_1c112, ab_e270_1c113, ab_e270_1c114, ab_e270_1c115, ab_e270_1c116, ab_e270_1c117, ab_e270_1c118, ab_e270_1c119, ab_e270_1d, bb_e270_96, ab_e270_98, bb_e270_99, ab_e270_101, bb_e270_102, ab_e270_104, bb_e270_105, ab_e270_107, bb_e270_108, ab_e270_110, bb_e270_111, ab_e270_113, bb_e270_114, ab_e270_116, bb_e270_117, ab_e270_119, bb_e270_120, ab_e270_122, bb_e270_123, ab_e270_125, ab_br_t, ab_br_f, ab_re_v (ab_zz _), ab_re_n (ab_zz _)]
    · simp (discharger := first | assumption | exact True.intro | exact not_false | (refine ab_gK ?_; with_unfolding_all rfl) | exact ab_rgI (by omega) (by omega) | omega) only [ab_a270, ab_e270_0, ab_e270_1c100, ab_e270_1c101, ab_e270_1c102, ab_e270_1c103, ab_e270_1c104, ab_e270_1c105, ab_e270_1c106, ab_e270_1c107, ab_e270_1c108, ab_e270_1c109, ab_e270_1c110, ab_e270_1c111, ab_e270_1c112, ab_e270_1c113, ab_e270_1c114, ab_e270_1c115, ab_e270_1c116, ab_e270_1c117, ab_e270_1c118, ab_e270_1c119, ab_e270_1d, bb_e270_96, ab_e270_98, bb_e270_99, ab_e270_101, bb_e270_102, ab_e270_104, bb_e270_105, ab_e270_107, bb_e270_108, ab_e270_110, bb_e270_111, ab_e270_113, bb_e270_114, ab_e270_116, bb_e270_117, ab_e270_119, bb_e270_120, ab_e270_122, bb_e270_123, ab_e270_125, ab_br_t, ab_br_f, ab_re_v (ab_zz _), ab_re_n (ab_zz _)]
    · simp (discharger := first | assumption | exact True.intro | exact not_false | (refine ab_gK ?_; with_unfolding_all rfl) | exact ab_rgI (by omega) (by omega) | omega) only [ab_a270, ab_e270_0, ab_e270_1c100, ab_e270_1c101, ab_e270_1c102, ab_e270_1c103, ab_e270_1c104, ab_e270_1c105, ab_e270_1c106, ab_e270_1c107, ab_e270_1c108, ab_e270_1c109, ab_e270_1c110, ab_e270_1c111, ab_e270_1c112, ab_e270_1c113, ab_e270_1c114, ab_e270_1c115, ab_e270_1c116, ab_e270_1c117, ab_e270_1c118, ab_e270_1c119, ab_e270_1d, bb_e270_96, ab_e270_98, bb_e270_99, ab_e270_101, bb_e270_102, ab_e270_104, bb_e270_105, ab_e270_107, bb_e270_108, ab_e270_110, bb_e270_111, ab_e270_113, bb_e270_114, ab_e270_116, bb_e270_117, ab_e270_119, bb_e270_120, ab_e270_122, bb_e270_123, ab_e270_125, ab_br_t, ab_br_f, ab_re_v (ab_zz _), ab_re_n (ab_zz _)]
    · simp (discharger := first | assumption | exact True.intro | exact not_false | (refine ab_gK ?_; with_unfolding_all rfl) | exact ab_rgI (by omega) (by omega) | omega) only [ab_a270, ab_e270_0, ab_e270_1c100, ab_e270_1c101, ab_e270_1c102, ab_e270_1c103, ab_e270_1c104, ab_e270_1c105, ab_e270_1c106, ab_e270_1c107, ab_e270_1c108, ab_e270_1c109, ab_e270_1c110, ab_e270_1c111, ab_e270_1c112, ab_e270_1c113, ab_e270_1c114, ab_e270_1c115, ab_e270_1c116, ab_e270_1c117, ab_e270_1c118, ab_e270_1c119, ab_e270_1d, bb_e270_96, ab_e270_98, bb_e270_99, ab_e270_101, bb_e270_102, ab_e270_104, bb_e270_105, ab_e270_107, bb_e270_108, ab_e270_110, bb_e270_111, ab_e270_113, bb_e270_114, ab_e270_116, bb_e270_117, ab_e270_119, bb_e270_120, ab_e270_122, bb_e270_123, ab_e270_125, ab_br_t, ab_br_f, ab_re_v (ab_zz _), ab_re_n (ab_zz _)]
    · simp (discharger := first | assumption | exact True.intro | exact not_false | (refine ab_gK ?_; with_unfolding_all rfl) | exact ab_rgI (by omega) (by omega) | omega) only [ab_a270, ab_e270_0, ab_e270_1c100, ab_e270_1c101, ab_e270_1c102, ab_e270_1c103, ab_e270_1c104, ab_e270_1c105, ab_e270_1c106, ab_e270_1c107, ab_e270_1c108, ab_e270_1c109, ab_e270_1c110, ab_e270_1c111, ab_e270_1c112, ab_e270_1c113, ab_e270_1c114, ab_e270_1c115, ab_e270_1c116, ab_e270_1c117, ab_e270_1c118, ab_e270_1c119, ab_e270_1d, bb_e270_96, ab_e270_98, bb_e270_99, ab_e270_101, bb_e270_102, ab_e270_104, bb_e270_105, ab_e270_107, bb_e270_108, ab_e270_110, bb_e270_111, ab_e270_113, bb_e270_114, ab_e270_116, bb_e270_117, ab_e270_119, bb_e270_120, ab_e270_122, bb_e270_123, ab_e270_125, ab_br_t, ab_br_f, ab_re_v (ab_zz _), ab_re_n (ab_zz _)]
    · simp (discharger := first | assumption | exact True.intro | exact not_false | (refine ab_gK ?_; with_unfolding_all rfl) | exact ab_rgI (by omega) (by omega) | omega) only [ab_a270, ab_e270_0, ab_e270_1c100, ab_e270_1c101, ab_e270_1c102, ab_e270_1c103, ab_e270_1c104, ab_e270_1c105, ab_e270_1c106, ab_e270_1c107, ab_e270_1c108, ab_e270_1c109, ab_e270_1c110, ab_e270_1c111, ab_e270_1c112, ab_e270_1c113, ab_e270_1c114, ab_e270_1c115, ab_e270_1c116, ab_e270_1c117, ab_e270_1c118, ab_e270_1c119, ab_e270_1d, bb_e270_96, ab_e270_98, bb_e270_99, ab_e270_101, bb_e270_102, ab_e270_104, bb_e270_105, ab_e270_107, bb_e270_108, ab_e270_110, bb_e270_111, ab_e270_113, bb_e270_114, ab_e270_116, bb_e270_117, ab_e270_119, bb_e270_120, ab_e270_122, bb_e270_123, ab_e270_125, ab_br_t, ab_br_f, ab_re_v (ab_zz _), ab_re_n (ab_zz _)]
    · simp (discharger := first | assumption | exact True.intro | exact not_false | (refine ab_gK ?_; with_unfolding_all rfl) | exact ab_rgI (by omega) (by omega) | omega) only [ab_a270, ab_e270_0, ab_e270_1c100, ab_e270_1c101, ab_e270_1c102, ab_e270_1c103, ab_e270_1c104, ab_e270_1c105, ab_e270_1c106, ab_e270_1c107, ab_e270_1c108, ab_e270_1c109, ab_e270_1c110, ab_e270_1c111, ab_e270_1c112, ab_e270_1c113, ab_e270_1c114, ab_e270_1c115, ab_e270_1c116, ab_e270_1c117, ab_e270_1c118, ab_e270_1c119, ab_e270_1d, bb_e270_96, ab_e270_98, bb_e270_99, ab_e270_101, bb_e270_102, ab_e270_104, bb_e270_105, ab_e270_107, bb_e270_108, ab_e270_110, bb_e270_111, ab_e270_113, bb_e270_114, ab_e270_116, bb_e270_117, ab_e270_119, bb_e270_120, ab_e270_122, bb_e270_123, ab_e270_125, ab_br_t, ab_br_f, ab_re_v (ab_zz _), ab_re_n (ab_zz _)]
    · simp (discharger := first | assumption | exact True.intro | exact not_false | (refine ab_gK ?_; with_unfolding_all rfl) | exact ab_rgI (by omega) (by omega) | omega) only [ab_a270, ab_e270_0, ab_e270_1c100, ab_e270_1c101, ab_e270_1c102, ab_e270_1c103, ab_e270_1c104, ab_e270_1c105, ab_e270_1c106, ab_e270_1c107, ab_e270_1c108, ab_e270_1c109, ab_e270_1c110, ab_e270_1c111, ab_e270_1c112, ab_e270_1c113, ab_e270_1c114, ab_e270_1c115, ab_e270_1c116, ab_e270_1c117, ab_e270_1c118, ab_e270_1c119, ab_e270_1d, bb_e270_96, ab_e270_98, bb_e270_99, ab_e270_101, bb_e270_102, ab_e270_104, bb_e270_105, ab_e270_107, bb_e270_108, ab_e270_110, bb_e270_111, ab_e270_113, bb_e270_114, ab_e270_116, bb_e270_117, ab_e270_119, bb_e270_120, ab_e270_122, bb_e270_123, ab_e270_125, ab_br_t, ab_br_f, ab_re_v (ab_zz _), ab_re_n (ab_zz _)]
    · simp (discharger := first | assumption | exact True.intro | exact not_false | (refine ab_gK ?_; with_unfolding_all rfl) | exact ab_rgI (by omega) (by omega) | omega) only [ab_a270, ab_e270_0, ab_e270_1c100, ab_e270_1c101, ab_e270_1c102, ab_e270_1c103, ab_e270_1c104, ab_e270_1c105, ab_e270_1c106, ab_e270_1c107, ab_e270_1c108, ab_e270_1c109, ab_e270_1c110, ab_e270_1c111, ab_e270_1c112, ab_e270_1c113, ab_e270_1c114, ab_e270_1c115, ab_e270_1c116, ab_e270_1c117, ab_e270_1c118, ab_e270_1c119, ab_e270_1d, bb_e270_96, ab_e270_98, bb_e270_99, ab_e270_101, bb_e270_102, ab_e270_104, bb_e270_105, ab_e270_107, bb_e270_108, ab_e270_110, bb_e270_111, ab_e270_113, bb_e270_114, ab_e270_116, bb_e270_117, ab_e270_119, bb_e270_120, ab_e270_122, bb_e270_123, ab_e270_125, ab_br_t, ab_br_f, ab_re_v (ab_zz _), ab_re_n (ab_zz _)]
    · simp (discharger := first | assumption | exact True.intro | exact not_false | (refine ab_gK ?_; with_unfolding_all rfl) | exact ab_rgI (by omega) (by omega) | omega) only [ab_a270, ab_e270_0, ab_e270_1c100, ab_e270_1c101, ab_e270_1c102, ab_e270_1c103, ab_e270_1c104, ab_e270_1c105, ab_e270_1c106, ab_e270_1c107, ab_e270_1c108, ab_e270_1c109, ab_e270_1c110, ab_e270_1c111, ab_e270_1c112, ab_e270_1c113, ab_e270_1c114, ab_e270_1c115, ab_e270_1c116, ab_e270_1c117, ab_e270_1c118, ab_e270_1c119, ab_e270_1d, bb_e270_96, ab_e270_98, bb_e270_99, ab_e270_101, bb_e270_102, ab_e270_104, bb_e270_105, ab_e270_107, bb_e270_108, ab_e270_110, bb_e270_111, ab_e270_113, bb_e270_114, ab_e270_116, bb_e270_117, ab_e270_119, bb_e270_120, ab_e270_122, bb_e270_123, ab_e270_125, ab_br_t, ab_br_f, ab_re_v (ab_zz _), ab_re_n (ab_zz _)]
  · have hd : a < 100 ∨ 100 + 20 ≤ a := by omega
    simp (discharger := first | assumption | exact True.intro | exact not_false | (refine ab_gK ?_; with_unfolding_all rfl) | exact ab_rgI (by omega) (by omega) | omega) only [ab_a270, ab_e270_0, ab_e270_1c100, ab_e270_1c101, ab_e270_1c102, ab_e270_1c103, ab_e270_1c104, ab_e270_1c105, ab_e270_1c106, ab_e270_1c107, ab_e270_1c108, ab_e270_1c109, ab_e270_1c110, ab_e270_1c111, ab_e270_1c112, ab_e270_1c113, ab_e270_1c114, ab_e270_1c115, ab_e270_1c116, ab_e270_1c117, ab_e270_1c118, ab_e270_1c119, ab_e270_1d, bb_e270_96, ab_e270_98, bb_e270_99, ab_e270_101, bb_e270_102, ab_e270_104, bb_e270_105, ab_e270_107, bb_e270_108, ab_e270_110, bb_e270_111, ab_e270_113, bb_e270_114, ab_e270_116, bb_e270_117, ab_e270_119, bb_e270_120, ab_e270_122, bb_e270_123, ab_e270_125, ab_br_t, ab_br_f, ab_re_v (ab_zz _), ab_re_n (ab_zz _)]

def bb_prg (c : Int → Int) (n p : Int) : Int × Int := if (p + 1 < n ∧ 48 ≤ c (p + 1) ∧ c (p + 1) ≤ 57) then (if (p + 1 + 1 < n ∧ c (p + 1 + 1) = 64) then (if (p + 1 + 1 + 1 < n ∧ 48 ≤ c (p + 1 + 1 + 1) ∧ c (p + 1 + 1 + 1) ≤ 57) then (if (bb_nP c n (p + 1 + 1 + 1) < n ∧ c (bb_nP c n (p + 1 + 1 + 1)) = 58) then (if (bb_nP c n (p + 1 + 1 + 1) + 1 < n ∧ 48 ≤ c (bb_nP c n (p + 1 + 1 + 1) + 1) ∧ c (bb_nP c n (p + 1 + 1 + 1) + 1) ≤ 57) then (if (bb_nP c n (p + 1 + 1 + 1) + 1 + 1 < n ∧ c (bb_nP c n (p + 1 + 1 + 1) + 1 + 1) = 33) then (1, bb_nP c n (p + 1 + 1 + 1) + 1 + 1 + 1) else (1, bb_nP c n (p + 1 + 1 + 1) + 1 + 1)) else (0, bb_nP c n (p + 1 + 1 + 1) + 1)) else (0, bb_nP c n (p + 1 + 1 + 1))) else (0, p + 1 + 1 + 1)) else (0, p + 1 + 1)) else (0, p + 1)
def bb_prl (c : Int → Int) (n p : Int) : Int × Int := if (p + 1 < n ∧ 48 ≤ c (p + 1) ∧ c (p + 1) ≤ 57) then (if (p + 1 + 1 < n ∧ 48 ≤ c (p + 1 + 1) ∧ c (p + 1 + 1) ≤ 57) then (1, p + 1 + 1 + 1) else (0, p + 1 + 1)) else (0, p + 1)
def bb_pre (c : Int → Int) (n p : Int) : Int × Int := if (p + 1 < n ∧ 48 ≤ c (p + 1) ∧ c (p + 1) ≤ 57) then (if (p + 1 + 1 < n ∧ c (p + 1 + 1) = 47) then (if (p + 1 + 1 + 1 < n ∧ 48 ≤ c (p + 1 + 1 + 1) ∧ c (p + 1 + 1 + 1) ≤ 57) then (1, bb_nP c n (p + 1 + 1 + 1)) else (0, p + 1 + 1 + 1)) else (0, p + 1 + 1)) else (0, p + 1)
def bb_prw (c : Int → Int) (n p : Int) : Int × Int := if (p + 1 < n ∧ 48 ≤ c (p + 1) ∧ c (p + 1) ≤ 57) then (1, bb_nP c n (p + 1)) else (0, p + 1)
def bb_prs (c : Int → Int) (n p : Int) : Int × Int := if (p + 1 < n ∧ 48 ≤ c (p + 1) ∧ c (p + 1) ≤ 57) then (1, p + 1 + 1) else (0, p + 1)
/-- whether a command begins at p, and where it ends or cannot go on -/
def bb_pr (c : Int → Int) (n p : Int) : Int × Int := if ¬ p < n then (0, p) else if c p = 103 then bb_prg c n p else if c p = 108 ∨ c p = 112 then bb_prl c n p else if c p = 101 then bb_pre c n p else if c p = 119 then bb_prw c n p else if c p = 115 ∨ c p = 117 ∨ c p = 116 ∨ c p = 100 then bb_prs c n p else (0, p)
/-- its numbers, and whether it is turned -/
def bb_v1 (c : Int → Int) (n p : Int) : Int := if c p = 119 then bb_nV c n (p + 1) else c (p + 1) - 48
def bb_v2 (c : Int → Int) (n p : Int) : Int := if c p = 108 ∨ c p = 112 then c (p + 1 + 1) - 48 else bb_nV c n (p + 1 + 1 + 1)
def bb_v3 (c : Int → Int) (n p : Int) : Int := c (bb_nP c n (p + 1 + 1 + 1) + 1) - 48
def bb_vt (c : Int → Int) (n p : Int) : Int := if (bb_nP c n (p + 1 + 1 + 1) + 1 + 1 < n ∧ c (bb_nP c n (p + 1 + 1 + 1) + 1 + 1) = 33) then 1 else 0
/-- the numbers read are those of the command at p -/
def bb_VN (c : Int → Int) (n p : Int) (N : Int → Int) (t : Int) : Prop := N 0 = bb_v1 c n p ∧ (c p = 108 ∨ c p = 112 ∨ c p = 101 ∨ c p = 103 → N 1 = bb_v2 c n p) ∧ (c p = 103 → N 2 = bb_v3 c n p ∧ t = bb_vt c n p)
theorem bb_y240_103 {K : ab_Kt} {D : Nat → Int → Int} {L : Nat → Int → Int64} {z : ab_Z} {c : Int → Int} {n : Int} (hX : bb_X D c n) {q p l k t : Int} {N : Int → Int} (p0 : 0 ≤ p) (pn : p < n) (hch : c p = 103) : ∃ k9 t9 N9, ab_cal K 240 [.ref 494] (ab_mk (bb_T D (q) (p) (l) (k) (t) N) L z) = some (.inl (some (.int (ab_I (bb_prg c n p).1))), ab_mk (bb_T D q ((bb_prg c n p).2) (c p) k9 t9 N9) L z) ∧ ((bb_prg c n p).1 = 1 → bb_VN c n p N9 t9) := by
  obtain ⟨⟨n0, n60⟩, x1, x2⟩ := id hX
  have hcj : ∀ j, 0 ≤ j → j < n → D 495 j = c j := fun j a b => (x2 j a b).1
  have hc1 : ∀ j, 0 ≤ j → j < n → ab_rg (c j) := fun j a b => ab_rgI (by have := (x2 j a b).2.1; omega) (by have := (x2 j a b).2.2; omega)
  by_cases s0 : (p + 1 < n ∧ 48 ≤ c (p + 1) ∧ c (p + 1) ≤ 57)
  · have o0 : 0 ≤ p + 1 ∧ p + 1 ≤ n := ⟨by omega, by omega⟩
    by_cases s1 : (p + 1 + 1 < n ∧ c (p + 1 + 1) = 64)
    · have o1 : 0 ≤ p + 1 + 1 ∧ p + 1 + 1 ≤ n := ⟨by omega, by omega⟩
      by_cases s2 : (p + 1 + 1 + 1 < n ∧ 48 ≤ c (p + 1 + 1 + 1) ∧ c (p + 1 + 1 + 1) ≤ 57)
      · have o2 : 0 ≤ p + 1 + 1 + 1 ∧ p + 1 + 1 + 1 ≤ n := ⟨by omega, by omega⟩
        have w2 := bb_nP_rg c n (p + 1 + 1 + 1)
        have y2 := w2.2.2 s2.1
        by_cases s3 : (bb_nP c n (p + 1 + 1 + 1) < n ∧ c (bb_nP c n (p + 1 + 1 + 1)) = 58)
        · have o3 : 0 ≤ bb_nP c n (p + 1 + 1 + 1) ∧ bb_nP c n (p + 1 + 1 + 1) ≤ n := ⟨by omega, by omega⟩
          by_cases s4 : (bb_nP c n (p + 1 + 1 + 1) + 1 < n ∧ 48 ≤ c (bb_nP c n (p + 1 + 1 + 1) + 1) ∧ c (bb_nP c n (p + 1 + 1 + 1) + 1) ≤ 57)
          · have o4 : 0 ≤ bb_nP c n (p + 1 + 1 + 1) + 1 ∧ bb_nP c n (p + 1 + 1 + 1) + 1 ≤ n := ⟨by omega, by omega⟩
            by_cases s5 : (bb_nP c n (p + 1 + 1 + 1) + 1 + 1 < n ∧ c (bb_nP c n (p + 1 + 1 + 1) + 1 + 1) = 33)
            · have o5 : 0 ≤ bb_nP c n (p + 1 + 1 + 1) + 1 + 1 ∧ bb_nP c n (p + 1 + 1 + 1) + 1 + 1 ≤ n := ⟨by omega, by omega⟩
              have hpr : bb_prg c n p = (1, bb_nP c n (p + 1 + 1 + 1) + 1 + 1 + 1) := by unfold bb_prg; rw [if_pos s0, if_pos s1, if_pos s2, if_pos s3, if_pos s4, if_pos s5]
              rw [hpr]
              refine ⟨0 + 1 + 1 + 1, 1, (bb_g1 (bb_g1 (bb_g1 N (0) (c (p + 1) - 48)) (0 + 1) (bb_nV c n (p + 1 + 1 + 1))) (0 + 1 + 1) (c (bb_nP c n (p + 1 + 1 + 1) + 1) - 48)), ?_, ?_⟩
              · have bl : bb_len 0 = 6 := by decide
                have by0 : bb_byt 0 (0) = 35 := by decide
                have by1 : bb_byt 0 (0 + 1) = 64 := by decide
                have by2 : bb_byt 0 (0 + 1 + 1) = 37 := by decide
                have by3 : bb_byt 0 (0 + 1 + 1 + 1) = 58 := by decide
                have by4 : bb_byt 0 (0 + 1 + 1 + 1 + 1) = 35 := by decide
                have by5 : bb_byt 0 (0 + 1 + 1 + 1 + 1 + 1) = 33 := by decide
                simp (discharger := first | assumption | exact True.intro | exact not_false | (refine ab_gK ?_; with_unfolding_all rfl) | exact ab_rgI (by omega) (by omega) | omega) only [ab_a240, x1, hcj, hch, bb_y270_103, bb_y271 (i := 0), bb_y272 (i := 0), bb_y273 (i := 0), bl, by0, by1, by2, by3, by4, by5, bb_y274n hX o0.1 o0.2 s0, bb_y274c hX o1.1 o1.2 (x := 64) (by decide) s1, bb_y274w hX o2.1 o2.2 s2, bb_y274c hX o3.1 o3.2 (x := 58) (by decide) s3, bb_y274n hX o4.1 o4.2 s4, bb_y274b hX o5.1 o5.2 s5, if_neg (show ¬ (6 : Int) = 0 by decide), bb_T1, bb_T2, bb_T3, bb_T4, bb_T6, bb_T7, bb_T495, bb_T496, bb_T17, bb_U2, bb_U3, bb_U4, bb_U6, bb_U7, bb_U496, ab_e240_0, ab_e240_1, ab_e240_2, ab_e240_5, ab_e240_6, ab_e240_7, ab_e240_10, ab_e240_11, ab_e240_14, ab_e240_17, ab_e240_18, ab_e240_21, ab_e240_22, ab_e240_25, ab_e240_26, ab_e240_29, ab_e240_31, ab_e240_34, ab_e240_35, ab_e240_38, ab_e240_41, ab_e240_42, bb_e240_43, ab_e240_46, ab_e240_49, ab_e240_50, ab_e240_51, ab_e240_52, ab_e240_53, ab_e240_56, ab_e240_57, ab_e240_58, ab_e240_61, ab_e240_62, ab_e240_63, ab_e240_64, bb_e240_65, ab_e240_68, ab_e240_71, ab_e240_72, ab_e240_73, bb_e240_74, ab_e240_77, ab_e240_80, ab_e240_83, ab_e240_84, ab_e240_85, ab_e240_88, ab_e240_91, ab_e240_92, ab_br_t, ab_br_f, ab_re_v (ab_zz _), ab_re_n (ab_zz _)]
              · intro _
                refine ⟨?_, fun hh => ?_, fun hh => ?_⟩
                · rw [bb_g1_ne (by decide), bb_g1_ne (by decide), bb_g1_eq]
                  exact (if_neg (by omega)).symm
                · rw [bb_g1_ne (by decide), show (0 : Int) + 1 = 1 from rfl, bb_g1_eq]
                  exact (if_neg (by omega)).symm
                · rw [show (0 : Int) + 1 + 1 = 2 from rfl, bb_g1_eq]
                  exact ⟨rfl, (if_pos s5).symm⟩
            · have o5 : 0 ≤ bb_nP c n (p + 1 + 1 + 1) + 1 + 1 ∧ bb_nP c n (p + 1 + 1 + 1) + 1 + 1 ≤ n := ⟨by omega, by omega⟩
              have hpr : bb_prg c n p = (1, bb_nP c n (p + 1 + 1 + 1) + 1 + 1) := by unfold bb_prg; rw [if_pos s0, if_pos s1, if_pos s2, if_pos s3, if_pos s4, if_neg s5]
              rw [hpr]
              refine ⟨0 + 1 + 1 + 1, 0, (bb_g1 (bb_g1 (bb_g1 N (0) (c (p + 1) - 48)) (0 + 1) (bb_nV c n (p + 1 + 1 + 1))) (0 + 1 + 1) (c (bb_nP c n (p + 1 + 1 + 1) + 1) - 48)), ?_, ?_⟩
              · have bl : bb_len 0 = 6 := by decide
                have by0 : bb_byt 0 (0) = 35 := by decide
                have by1 : bb_byt 0 (0 + 1) = 64 := by decide
                have by2 : bb_byt 0 (0 + 1 + 1) = 37 := by decide
                have by3 : bb_byt 0 (0 + 1 + 1 + 1) = 58 := by decide
                have by4 : bb_byt 0 (0 + 1 + 1 + 1 + 1) = 35 := by decide
                have by5 : bb_byt 0 (0 + 1 + 1 + 1 + 1 + 1) = 33 := by decide
                simp (discharger := first | assumption | exact True.intro | exact not_false | (refine ab_gK ?_; with_unfolding_all rfl) | exact ab_rgI (by omega) (by omega) | omega) only [ab_a240, x1, hcj, hch, bb_y270_103, bb_y271 (i := 0), bb_y272 (i := 0), bb_y273 (i := 0), bl, by0, by1, by2, by3, by4, by5, bb_y274n hX o0.1 o0.2 s0, bb_y274c hX o1.1 o1.2 (x := 64) (by decide) s1, bb_y274w hX o2.1 o2.2 s2, bb_y274c hX o3.1 o3.2 (x := 58) (by decide) s3, bb_y274n hX o4.1 o4.2 s4, bb_y274bt hX o5.1 o5.2 s5, if_neg (show ¬ (6 : Int) = 0 by decide), bb_T1, bb_T2, bb_T3, bb_T4, bb_T6, bb_T7, bb_T495, bb_T496, bb_T17, bb_U2, bb_U3, bb_U4, bb_U6, bb_U7, bb_U496, ab_e240_0, ab_e240_1, ab_e240_2, ab_e240_5, ab_e240_6, ab_e240_7, ab_e240_10, ab_e240_11, ab_e240_14, ab_e240_17, ab_e240_18, ab_e240_21, ab_e240_22, ab_e240_25, ab_e240_26, ab_e240_29, ab_e240_31, ab_e240_34, ab_e240_35, ab_e240_38, ab_e240_41, ab_e240_42, bb_e240_43, ab_e240_46, ab_e240_49, ab_e240_50, ab_e240_51, ab_e240_52, ab_e240_53, ab_e240_56, ab_e240_57, ab_e240_58, ab_e240_61, ab_e240_62, ab_e240_63, ab_e240_64, bb_e240_65, ab_e240_68, ab_e240_71, ab_e240_72, ab_e240_73, bb_e240_74, ab_e240_77, ab_e240_80, ab_e240_83, ab_e240_84, ab_e240_85, ab_e240_88, ab_e240_91, ab_e240_92, ab_br_t, ab_br_f, ab_re_v (ab_zz _), ab_re_n (ab_zz _)]
              · intro _
                refine ⟨?_, fun hh => ?_, fun hh => ?_⟩
                · rw [bb_g1_ne (by decide), bb_g1_ne (by decide), bb_g1_eq]
                  exact (if_neg (by omega)).symm
                · rw [bb_g1_ne (by decide), show (0 : Int) + 1 = 1 from rfl, bb_g1_eq]
                  exact (if_neg (by omega)).symm
                · rw [show (0 : Int) + 1 + 1 = 2 from rfl, bb_g1_eq]
                  exact ⟨rfl, (if_neg s5).symm⟩
          · have o4 : 0 ≤ bb_nP c n (p + 1 + 1 + 1) + 1 ∧ bb_nP c n (p + 1 + 1 + 1) + 1 ≤ n := ⟨by omega, by omega⟩
            have hpr : bb_prg c n p = (0, bb_nP c n (p + 1 + 1 + 1) + 1) := by unfold bb_prg; rw [if_pos s0, if_pos s1, if_pos s2, if_pos s3, if_neg s4]
            rw [hpr]
            refine ⟨0 + 1 + 1, t, (bb_g1 (bb_g1 N (0) (c (p + 1) - 48)) (0 + 1) (bb_nV c n (p + 1 + 1 + 1))), ?_, ?_⟩
            · have bl : bb_len 0 = 6 := by decide
              have by0 : bb_byt 0 (0) = 35 := by decide
              have by1 : bb_byt 0 (0 + 1) = 64 := by decide
              have by2 : bb_byt 0 (0 + 1 + 1) = 37 := by decide
              have by3 : bb_byt 0 (0 + 1 + 1 + 1) = 58 := by decide
              have by4 : bb_byt 0 (0 + 1 + 1 + 1 + 1) = 35 := by decide
              have by5 : bb_byt 0 (0 + 1 + 1 + 1 + 1 + 1) = 33 := by decide
              simp (discharger := first | assumption | exact True.intro | exact not_false | (refine ab_gK ?_; with_unfolding_all rfl) | exact ab_rgI (by omega) (by omega) | omega) only [ab_a240, x1, hcj, hch, bb_y270_103, bb_y271 (i := 0), bb_y272 (i := 0), bb_y273 (i := 0), bl, by0, by1, by2, by3, by4, by5, bb_y274n hX o0.1 o0.2 s0, bb_y274c hX o1.1 o1.2 (x := 64) (by decide) s1, bb_y274w hX o2.1 o2.2 s2, bb_y274c hX o3.1 o3.2 (x := 58) (by decide) s3, bb_y274nt hX o4.1 o4.2 (x := 35) (by decide) s4, if_neg (show ¬ (6 : Int) = 0 by decide), bb_T1, bb_T2, bb_T3, bb_T4, bb_T6, bb_T7, bb_T495, bb_T496, bb_T17, bb_U2, bb_U3, bb_U4, bb_U6, bb_U7, bb_U496, ab_e240_0, ab_e240_1, ab_e240_2, ab_e240_5, ab_e240_6, ab_e240_7, ab_e240_10, ab_e240_11, ab_e240_14, ab_e240_17, ab_e240_18, ab_e240_21, ab_e240_22, ab_e240_25, ab_e240_26, ab_e240_29, ab_e240_31, ab_e240_34, ab_e240_35, ab_e240_38, ab_e240_41, ab_e240_42, bb_e240_43, ab_e240_46, ab_e240_49, ab_e240_50, ab_e240_51, ab_e240_52, ab_e240_53, ab_e240_56, ab_e240_57, ab_e240_58, ab_e240_61, ab_e240_62, ab_e240_63, ab_e240_64, bb_e240_65, ab_e240_68, ab_e240_71, ab_e240_72, ab_e240_73, bb_e240_74, ab_e240_77, ab_e240_80, ab_e240_83, ab_e240_84, ab_e240_85, ab_e240_88, ab_e240_91, ab_e240_92, ab_br_t, ab_br_f, ab_re_v (ab_zz _), ab_re_n (ab_zz _)]
            · exact fun x => absurd x (by show ¬ (0 : Int) = 1; decide)
        · have o3 : 0 ≤ bb_nP c n (p + 1 + 1 + 1) ∧ bb_nP c n (p + 1 + 1 + 1) ≤ n := ⟨by omega, by omega⟩
          have hpr : bb_prg c n p = (0, bb_nP c n (p + 1 + 1 + 1)) := by unfold bb_prg; rw [if_pos s0, if_pos s1, if_pos s2, if_neg s3]
          rw [hpr]
          refine ⟨0 + 1 + 1, t, (bb_g1 (bb_g1 N (0) (c (p + 1) - 48)) (0 + 1) (bb_nV c n (p + 1 + 1 + 1))), ?_, ?_⟩
          · have bl : bb_len 0 = 6 := by decide
            have by0 : bb_byt 0 (0) = 35 := by decide
            have by1 : bb_byt 0 (0 + 1) = 64 := by decide
            have by2 : bb_byt 0 (0 + 1 + 1) = 37 := by decide
            have by3 : bb_byt 0 (0 + 1 + 1 + 1) = 58 := by decide
            have by4 : bb_byt 0 (0 + 1 + 1 + 1 + 1) = 35 := by decide
            have by5 : bb_byt 0 (0 + 1 + 1 + 1 + 1 + 1) = 33 := by decide
            simp (discharger := first | assumption | exact True.intro | exact not_false | (refine ab_gK ?_; with_unfolding_all rfl) | exact ab_rgI (by omega) (by omega) | omega) only [ab_a240, x1, hcj, hch, bb_y270_103, bb_y271 (i := 0), bb_y272 (i := 0), bb_y273 (i := 0), bl, by0, by1, by2, by3, by4, by5, bb_y274n hX o0.1 o0.2 s0, bb_y274c hX o1.1 o1.2 (x := 64) (by decide) s1, bb_y274w hX o2.1 o2.2 s2, bb_y274ct hX o3.1 o3.2 (x := 58) (by decide) s3, if_neg (show ¬ (6 : Int) = 0 by decide), bb_T1, bb_T2, bb_T3, bb_T4, bb_T6, bb_T7, bb_T495, bb_T496, bb_T17, bb_U2, bb_U3, bb_U4, bb_U6, bb_U7, bb_U496, ab_e240_0, ab_e240_1, ab_e240_2, ab_e240_5, ab_e240_6, ab_e240_7, ab_e240_10, ab_e240_11, ab_e240_14, ab_e240_17, ab_e240_18, ab_e240_21, ab_e240_22, ab_e240_25, ab_e240_26, ab_e240_29, ab_e240_31, ab_e240_34, ab_e240_35, ab_e240_38, ab_e240_41, ab_e240_42, bb_e240_43, ab_e240_46, ab_e240_49, ab_e240_50, ab_e240_51, ab_e240_52, ab_e240_53, ab_e240_56, ab_e240_57, ab_e240_58, ab_e240_61, ab_e240_62, ab_e240_63, ab_e240_64, bb_e240_65, ab_e240_68, ab_e240_71, ab_e240_72, ab_e240_73, bb_e240_74, ab_e240_77, ab_e240_80, ab_e240_83, ab_e240_84, ab_e240_85, ab_e240_88, ab_e240_91, ab_e240_92, ab_br_t, ab_br_f, ab_re_v (ab_zz _), ab_re_n (ab_zz _)]
          · exact fun x => absurd x (by show ¬ (0 : Int) = 1; decide)
      · have o2 : 0 ≤ p + 1 + 1 + 1 ∧ p + 1 + 1 + 1 ≤ n := ⟨by omega, by omega⟩
        have hpr : bb_prg c n p = (0, p + 1 + 1 + 1) := by unfold bb_prg; rw [if_pos s0, if_pos s1, if_neg s2]
        rw [hpr]
        refine ⟨0 + 1, t, (bb_g1 N (0) (c (p + 1) - 48)), ?_, ?_⟩
        · have bl : bb_len 0 = 6 := by decide
          have by0 : bb_byt 0 (0) = 35 := by decide
          have by1 : bb_byt 0 (0 + 1) = 64 := by decide
          have by2 : bb_byt 0 (0 + 1 + 1) = 37 := by decide
          have by3 : bb_byt 0 (0 + 1 + 1 + 1) = 58 := by decide
          have by4 : bb_byt 0 (0 + 1 + 1 + 1 + 1) = 35 := by decide
          have by5 : bb_byt 0 (0 + 1 + 1 + 1 + 1 + 1) = 33 := by decide
          simp (discharger := first | assumption | exact True.intro | exact not_false | (refine ab_gK ?_; with_unfolding_all rfl) | exact ab_rgI (by omega) (by omega) | omega) only [ab_a240, x1, hcj, hch, bb_y270_103, bb_y271 (i := 0), bb_y272 (i := 0), bb_y273 (i := 0), bl, by0, by1, by2, by3, by4, by5, bb_y274n hX o0.1 o0.2 s0, bb_y274c hX o1.1 o1.2 (x := 64) (by decide) s1, bb_y274nt hX o2.1 o2.2 (x := 37) (by decide) s2, if_neg (show ¬ (6 : Int) = 0 by decide), bb_T1, bb_T2, bb_T3, bb_T4, bb_T6, bb_T7, bb_T495, bb_T496, bb_T17, bb_U2, bb_U3, bb_U4, bb_U6, bb_U7, bb_U496, ab_e240_0, ab_e240_1, ab_e240_2, ab_e240_5, ab_e240_6, ab_e240_7, ab_e240_10, ab_e240_11, ab_e240_14, ab_e240_17, ab_e240_18, ab_e240_21, ab_e240_22, ab_e240_25, ab_e240_26, ab_e240_29, ab_e240_31, ab_e240_34, ab_e240_35, ab_e240_38, ab_e240_41, ab_e240_42, bb_e240_43, ab_e240_46, ab_e240_49, ab_e240_50, ab_e240_51, ab_e240_52, ab_e240_53, ab_e240_56, ab_e240_57, ab_e240_58, ab_e240_61, ab_e240_62, ab_e240_63, ab_e240_64, bb_e240_65, ab_e240_68, ab_e240_71, ab_e240_72, ab_e240_73, bb_e240_74, ab_e240_77, ab_e240_80, ab_e240_83, ab_e240_84, ab_e240_85, ab_e240_88, ab_e240_91, ab_e240_92, ab_br_t, ab_br_f, ab_re_v (ab_zz _), ab_re_n (ab_zz _)]
        · exact fun x => absurd x (by show ¬ (0 : Int) = 1; decide)
    · have o1 : 0 ≤ p + 1 + 1 ∧ p + 1 + 1 ≤ n := ⟨by omega, by omega⟩
      have hpr : bb_prg c n p = (0, p + 1 + 1) := by unfold bb_prg; rw [if_pos s0, if_neg s1]
      rw [hpr]
      refine ⟨0 + 1, t, (bb_g1 N (0) (c (p + 1) - 48)), ?_, ?_⟩
      · have bl : bb_len 0 = 6 := by decide
        have by0 : bb_byt 0 (0) = 35 := by decide
        have by1 : bb_byt 0 (0 + 1) = 64 := by decide
        have by2 : bb_byt 0 (0 + 1 + 1) = 37 := by decide
        have by3 : bb_byt 0 (0 + 1 + 1 + 1) = 58 := by decide
        have by4 : bb_byt 0 (0 + 1 + 1 + 1 + 1) = 35 := by decide
        have by5 : bb_byt 0 (0 + 1 + 1 + 1 + 1 + 1) = 33 := by decide
        simp (discharger := first | assumption | exact True.intro | exact not_false | (refine ab_gK ?_; with_unfolding_all rfl) | exact ab_rgI (by omega) (by omega) | omega) only [ab_a240, x1, hcj, hch, bb_y270_103, bb_y271 (i := 0), bb_y272 (i := 0), bb_y273 (i := 0), bl, by0, by1, by2, by3, by4, by5, bb_y274n hX o0.1 o0.2 s0, bb_y274ct hX o1.1 o1.2 (x := 64) (by decide) s1, if_neg (show ¬ (6 : Int) = 0 by decide), bb_T1, bb_T2, bb_T3, bb_T4, bb_T6, bb_T7, bb_T495, bb_T496, bb_T17, bb_U2, bb_U3, bb_U4, bb_U6, bb_U7, bb_U496, ab_e240_0, ab_e240_1, ab_e240_2, ab_e240_5, ab_e240_6, ab_e240_7, ab_e240_10, ab_e240_11, ab_e240_14, ab_e240_17, ab_e240_18, ab_e240_21, ab_e240_22, ab_e240_25, ab_e240_26, ab_e240_29, ab_e240_31, ab_e240_34, ab_e240_35, ab_e240_38, ab_e240_41, ab_e240_42, bb_e240_43, ab_e240_46, ab_e240_49, ab_e240_50, ab_e240_51, ab_e240_52, ab_e240_53, ab_e240_56, ab_e240_57, ab_e240_58, ab_e240_61, ab_e240_62, ab_e240_63, ab_e240_64, bb_e240_65, ab_e240_68, ab_e240_71, ab_e240_72, ab_e240_73, bb_e240_74, ab_e240_77, ab_e240_80, ab_e240_83, ab_e240_84, ab_e240_85, ab_e240_88, ab_e240_91, ab_e240_92, ab_br_t, ab_br_f, ab_re_v (ab_zz _), ab_re_n (ab_zz _)]
      · exact fun x => absurd x (by show ¬ (0 : Int) = 1; decide)
  · have o0 : 0 ≤ p + 1 ∧ p + 1 ≤ n := ⟨by omega, by omega⟩
    have hpr : bb_prg c n p = (0, p + 1) := by unfold bb_prg; rw [if_neg s0]
    rw [hpr]
    refine ⟨0, t, N, ?_, ?_⟩
    · have bl : bb_len 0 = 6 := by decide
      have by0 : bb_byt 0 (0) = 35 := by decide
      have by1 : bb_byt 0 (0 + 1) = 64 := by decide
      have by2 : bb_byt 0 (0 + 1 + 1) = 37 := by decide
      have by3 : bb_byt 0 (0 + 1 + 1 + 1) = 58 := by decide
      have by4 : bb_byt 0 (0 + 1 + 1 + 1 + 1) = 35 := by decide
      have by5 : bb_byt 0 (0 + 1 + 1 + 1 + 1 + 1) = 33 := by decide
      simp (discharger := first | assumption | exact True.intro | exact not_false | (refine ab_gK ?_; with_unfolding_all rfl) | exact ab_rgI (by omega) (by omega) | omega) only [ab_a240, x1, hcj, hch, bb_y270_103, bb_y271 (i := 0), bb_y272 (i := 0), bb_y273 (i := 0), bl, by0, by1, by2, by3, by4, by5, bb_y274nt hX o0.1 o0.2 (x := 35) (by decide) s0, if_neg (show ¬ (6 : Int) = 0 by decide), bb_T1, bb_T2, bb_T3, bb_T4, bb_T6, bb_T7, bb_T495, bb_T496, bb_T17, bb_U2, bb_U3, bb_U4, bb_U6, bb_U7, bb_U496, ab_e240_0, ab_e240_1, ab_e240_2, ab_e240_5, ab_e240_6, ab_e240_7, ab_e240_10, ab_e240_11, ab_e240_14, ab_e240_17, ab_e240_18, ab_e240_21, ab_e240_22, ab_e240_25, ab_e240_26, ab_e240_29, ab_e240_31, ab_e240_34, ab_e240_35, ab_e240_38, ab_e240_41, ab_e240_42, bb_e240_43, ab_e240_46, ab_e240_49, ab_e240_50, ab_e240_51, ab_e240_52, ab_e240_53, ab_e240_56, ab_e240_57, ab_e240_58, ab_e240_61, ab_e240_62, ab_e240_63, ab_e240_64, bb_e240_65, ab_e240_68, ab_e240_71, ab_e240_72, ab_e240_73, bb_e240_74, ab_e240_77, ab_e240_80, ab_e240_83, ab_e240_84, ab_e240_85, ab_e240_88, ab_e240_91, ab_e240_92, ab_br_t, ab_br_f, ab_re_v (ab_zz _), ab_re_n (ab_zz _)]
    · exact fun x => absurd x (by show ¬ (0 : Int) = 1; decide)

theorem bb_y240_115 {K : ab_Kt} {D : Nat → Int → Int} {L : Nat → Int → Int64} {z : ab_Z} {c : Int → Int} {n : Int} (hX : bb_X D c n) {q p l k t : Int} {N : Int → Int} (p0 : 0 ≤ p) (pn : p < n) (hch : c p = 115) : ∃ k9 t9 N9, ab_cal K 240 [.ref 494] (ab_mk (bb_T D (q) (p) (l) (k) (t) N) L z) = some (.inl (some (.int (ab_I (bb_prs c n p).1))), ab_mk (bb_T D q ((bb_prs c n p).2) (c p) k9 t9 N9) L z) ∧ ((bb_prs c n p).1 = 1 → bb_VN c n p N9 t9) := by
  obtain ⟨⟨n0, n60⟩, x1, x2⟩ := id hX
  have hcj : ∀ j, 0 ≤ j → j < n → D 495 j = c j := fun j a b => (x2 j a b).1
  have hc1 : ∀ j, 0 ≤ j → j < n → ab_rg (c j) := fun j a b => ab_rgI (by have := (x2 j a b).2.1; omega) (by have := (x2 j a b).2.2; omega)
  by_cases s0 : (p + 1 < n ∧ 48 ≤ c (p + 1) ∧ c (p + 1) ≤ 57)
  · have o0 : 0 ≤ p + 1 ∧ p + 1 ≤ n := ⟨by omega, by omega⟩
    have hpr : bb_prs c n p = (1, p + 1 + 1) := by unfold bb_prs; rw [if_pos s0]
    rw [hpr]
    refine ⟨0 + 1, t, (bb_g1 N (0) (c (p + 1) - 48)), ?_, ?_⟩
    · have bl : bb_len 1 = 1 := by decide
      have by0 : bb_byt 1 (0) = 35 := by decide
      simp (discharger := first | assumption | exact True.intro | exact not_false | (refine ab_gK ?_; with_unfolding_all rfl) | exact ab_rgI (by omega) (by omega) | omega) only [ab_a240, x1, hcj, hch, bb_y270_115, bb_y271 (i := 1), bb_y272 (i := 1), bb_y273 (i := 1), bl, by0, bb_y274n hX o0.1 o0.2 s0, if_neg (show ¬ (1 : Int) = 0 by decide), bb_T1, bb_T2, bb_T3, bb_T4, bb_T6, bb_T7, bb_T495, bb_T496, bb_T17, bb_U2, bb_U3, bb_U4, bb_U6, bb_U7, bb_U496, ab_e240_0, ab_e240_1, ab_e240_2, ab_e240_5, ab_e240_6, ab_e240_7, ab_e240_10, ab_e240_11, ab_e240_14, ab_e240_17, ab_e240_18, ab_e240_21, ab_e240_22, ab_e240_25, ab_e240_26, ab_e240_29, ab_e240_31, ab_e240_34, ab_e240_35, ab_e240_38, ab_e240_41, ab_e240_42, bb_e240_43, ab_e240_46, ab_e240_49, ab_e240_50, ab_e240_51, ab_e240_52, ab_e240_53, ab_e240_56, ab_e240_57, ab_e240_58, ab_e240_61, ab_e240_62, ab_e240_63, ab_e240_64, bb_e240_65, ab_e240_68, ab_e240_71, ab_e240_72, ab_e240_73, bb_e240_74, ab_e240_77, ab_e240_80, ab_e240_83, ab_e240_84, ab_e240_85, ab_e240_88, ab_e240_91, ab_e240_92, ab_br_t, ab_br_f, ab_re_v (ab_zz _), ab_re_n (ab_zz _)]
    · intro _
      refine ⟨?_, fun hh => ?_, fun hh => ?_⟩
      · rw [bb_g1_eq]
        exact (if_neg (by omega)).symm
      · omega
      · omega
  · have o0 : 0 ≤ p + 1 ∧ p + 1 ≤ n := ⟨by omega, by omega⟩
    have hpr : bb_prs c n p = (0, p + 1) := by unfold bb_prs; rw [if_neg s0]
    rw [hpr]
    refine ⟨0, t, N, ?_, ?_⟩
    · have bl : bb_len 1 = 1 := by decide
      have by0 : bb_byt 1 (0) = 35 := by decide
      simp (discharger := first | assumption | exact True.intro | exact not_false | (refine ab_gK ?_; with_unfolding_all rfl) | exact ab_rgI (by omega) (by omega) | omega) only [ab_a240, x1, hcj, hch, bb_y270_115, bb_y271 (i := 1), bb_y272 (i := 1), bb_y273 (i := 1), bl, by0, bb_y274nt hX o0.1 o0.2 (x := 35) (by decide) s0, if_neg (show ¬ (1 : Int) = 0 by decide), bb_T1, bb_T2, bb_T3, bb_T4, bb_T6, bb_T7, bb_T495, bb_T496, bb_T17, bb_U2, bb_U3, bb_U4, bb_U6, bb_U7, bb_U496, ab_e240_0, ab_e240_1, ab_e240_2, ab_e240_5, ab_e240_6, ab_e240_7, ab_e240_10, ab_e240_11, ab_e240_14, ab_e240_17, ab_e240_18, ab_e240_21, ab_e240_22, ab_e240_25, ab_e240_26, ab_e240_29, ab_e240_31, ab_e240_34, ab_e240_35, ab_e240_38, ab_e240_41, ab_e240_42, bb_e240_43, ab_e240_46, ab_e240_49, ab_e240_50, ab_e240_51, ab_e240_52, ab_e240_53, ab_e240_56, ab_e240_57, ab_e240_58, ab_e240_61, ab_e240_62, ab_e240_63, ab_e240_64, bb_e240_65, ab_e240_68, ab_e240_71, ab_e240_72, ab_e240_73, bb_e240_74, ab_e240_77, ab_e240_80, ab_e240_83, ab_e240_84, ab_e240_85, ab_e240_88, ab_e240_91, ab_e240_92, ab_br_t, ab_br_f, ab_re_v (ab_zz _), ab_re_n (ab_zz _)]
    · exact fun x => absurd x (by show ¬ (0 : Int) = 1; decide)

theorem bb_y240_117 {K : ab_Kt} {D : Nat → Int → Int} {L : Nat → Int → Int64} {z : ab_Z} {c : Int → Int} {n : Int} (hX : bb_X D c n) {q p l k t : Int} {N : Int → Int} (p0 : 0 ≤ p) (pn : p < n) (hch : c p = 117) : ∃ k9 t9 N9, ab_cal K 240 [.ref 494] (ab_mk (bb_T D (q) (p) (l) (k) (t) N) L z) = some (.inl (some (.int (ab_I (bb_prs c n p).1))), ab_mk (bb_T D q ((bb_prs c n p).2) (c p) k9 t9 N9) L z) ∧ ((bb_prs c n p).1 = 1 → bb_VN c n p N9 t9) := by
  obtain ⟨⟨n0, n60⟩, x1, x2⟩ := id hX
  have hcj : ∀ j, 0 ≤ j → j < n → D 495 j = c j := fun j a b => (x2 j a b).1
  have hc1 : ∀ j, 0 ≤ j → j < n → ab_rg (c j) := fun j a b => ab_rgI (by have := (x2 j a b).2.1; omega) (by have := (x2 j a b).2.2; omega)
  by_cases s0 : (p + 1 < n ∧ 48 ≤ c (p + 1) ∧ c (p + 1) ≤ 57)
  · have o0 : 0 ≤ p + 1 ∧ p + 1 ≤ n := ⟨by omega, by omega⟩
    have hpr : bb_prs c n p = (1, p + 1 + 1) := by unfold bb_prs; rw [if_pos s0]
    rw [hpr]
    refine ⟨0 + 1, t, (bb_g1 N (0) (c (p + 1) - 48)), ?_, ?_⟩
    · have bl : bb_len 1 = 1 := by decide
      have by0 : bb_byt 1 (0) = 35 := by decide
      simp (discharger := first | assumption | exact True.intro | exact not_false | (refine ab_gK ?_; with_unfolding_all rfl) | exact ab_rgI (by omega) (by omega) | omega) only [ab_a240, x1, hcj, hch, bb_y270_117, bb_y271 (i := 1), bb_y272 (i := 1), bb_y273 (i := 1), bl, by0, bb_y274n hX o0.1 o0.2 s0, if_neg (show ¬ (1 : Int) = 0 by decide), bb_T1, bb_T2, bb_T3, bb_T4, bb_T6, bb_T7, bb_T495, bb_T496, bb_T17, bb_U2, bb_U3, bb_U4, bb_U6, bb_U7, bb_U496, ab_e240_0, ab_e240_1, ab_e240_2, ab_e240_5, ab_e240_6, ab_e240_7, ab_e240_10, ab_e240_11, ab_e240_14, ab_e240_17, ab_e240_18, ab_e240_21, ab_e240_22, ab_e240_25, ab_e240_26, ab_e240_29, ab_e240_31, ab_e240_34, ab_e240_35, ab_e240_38, ab_e240_41, ab_e240_42, bb_e240_43, ab_e240_46, ab_e240_49, ab_e240_50, ab_e240_51, ab_e240_52, ab_e240_53, ab_e240_56, ab_e240_57, ab_e240_58, ab_e240_61, ab_e240_62, ab_e240_63, ab_e240_64, bb_e240_65, ab_e240_68, ab_e240_71, ab_e240_72, ab_e240_73, bb_e240_74, ab_e240_77, ab_e240_80, ab_e240_83, ab_e240_84, ab_e240_85, ab_e240_88, ab_e240_91, ab_e240_92, ab_br_t, ab_br_f, ab_re_v (ab_zz _), ab_re_n (ab_zz _)]
    · intro _
      refine ⟨?_, fun hh => ?_, fun hh => ?_⟩
      · rw [bb_g1_eq]
        exact (if_neg (by omega)).symm
      · omega
      · omega
  · have o0 : 0 ≤ p + 1 ∧ p + 1 ≤ n := ⟨by omega, by omega⟩
    have hpr : bb_prs c n p = (0, p + 1) := by unfold bb_prs; rw [if_neg s0]
    rw [hpr]
    refine ⟨0, t, N, ?_, ?_⟩
    · have bl : bb_len 1 = 1 := by decide
      have by0 : bb_byt 1 (0) = 35 := by decide
      simp (discharger := first | assumption | exact True.intro | exact not_false | (refine ab_gK ?_; with_unfolding_all rfl) | exact ab_rgI (by omega) (by omega) | omega) only [ab_a240, x1, hcj, hch, bb_y270_117, bb_y271 (i := 1), bb_y272 (i := 1), bb_y273 (i := 1), bl, by0, bb_y274nt hX o0.1 o0.2 (x := 35) (by decide) s0, if_neg (show ¬ (1 : Int) = 0 by decide), bb_T1, bb_T2, bb_T3, bb_T4, bb_T6, bb_T7, bb_T495, bb_T496, bb_T17, bb_U2, bb_U3, bb_U4, bb_U6, bb_U7, bb_U496, ab_e240_0, ab_e240_1, ab_e240_2, ab_e240_5, ab_e240_6, ab_e240_7, ab_e240_10, ab_e240_11, ab_e240_14, ab_e240_17, ab_e240_18, ab_e240_21, ab_e240_22, ab_e240_25, ab_e240_26, ab_e240_29, ab_e240_31, ab_e240_34, ab_e240_35, ab_e240_38, ab_e240_41, ab_e240_42, bb_e240_43, ab_e240_46, ab_e240_49, ab_e240_50, ab_e240_51, ab_e240_52, ab_e240_53, ab_e240_56, ab_e240_57, ab_e240_58, ab_e240_61, ab_e240_62, ab_e240_63, ab_e240_64, bb_e240_65, ab_e240_68, ab_e240_71, ab_e240_72, ab_e240_73, bb_e240_74, ab_e240_77, ab_e240_80, ab_e240_83, ab_e240_84, ab_e240_85, ab_e240_88, ab_e240_91, ab_e240_92, ab_br_t, ab_br_f, ab_re_v (ab_zz _), ab_re_n (ab_zz _)]
    · exact fun x => absurd x (by show ¬ (0 : Int) = 1; decide)

theorem bb_y240_116 {K : ab_Kt} {D : Nat → Int → Int} {L : Nat → Int → Int64} {z : ab_Z} {c : Int → Int} {n : Int} (hX : bb_X D c n) {q p l k t : Int} {N : Int → Int} (p0 : 0 ≤ p) (pn : p < n) (hch : c p = 116) : ∃ k9 t9 N9, ab_cal K 240 [.ref 494] (ab_mk (bb_T D (q) (p) (l) (k) (t) N) L z) = some (.inl (some (.int (ab_I (bb_prs c n p).1))), ab_mk (bb_T D q ((bb_prs c n p).2) (c p) k9 t9 N9) L z) ∧ ((bb_prs c n p).1 = 1 → bb_VN c n p N9 t9) := by
  obtain ⟨⟨n0, n60⟩, x1, x2⟩ := id hX
  have hcj : ∀ j, 0 ≤ j → j < n → D 495 j = c j := fun j a b => (x2 j a b).1
  have hc1 : ∀ j, 0 ≤ j → j < n → ab_rg (c j) := fun j a b => ab_rgI (by have := (x2 j a b).2.1; omega) (by have := (x2 j a b).2.2; omega)
  by_cases s0 : (p + 1 < n ∧ 48 ≤ c (p + 1) ∧ c (p + 1) ≤ 57)
  · have o0 : 0 ≤ p + 1 ∧ p + 1 ≤ n := ⟨by omega, by omega⟩
    have hpr : bb_prs c n p = (1, p + 1 + 1) := by unfold bb_prs; rw [if_pos s0]
    rw [hpr]
    refine ⟨0 + 1, t, (bb_g1 N (0) (c (p + 1) - 48)), ?_, ?_⟩
    · have bl : bb_len 1 = 1 := by decide
      have by0 : bb_byt 1 (0) = 35 := by decide
      simp (discharger := first | assumption | exact True.intro | exact not_false | (refine ab_gK ?_; with_unfolding_all rfl) | exact ab_rgI (by omega) (by omega) | omega) only [ab_a240, x1, hcj, hch, bb_y270_116, bb_y271 (i := 1), bb_y272 (i := 1), bb_y273 (i := 1), bl, by0, bb_y274n hX o0.1 o0.2 s0, if_neg (show ¬ (1 : Int) = 0 by decide), bb_T1, bb_T2, bb_T3, bb_T4, bb_T6, bb_T7, bb_T495, bb_T496, bb_T17, bb_U2, bb_U3, bb_U4, bb_U6, bb_U7, bb_U496, ab_e240_0, ab_e240_1, ab_e240_2, ab_e240_5, ab_e240_6, ab_e240_7, ab_e240_10, ab_e240_11, ab_e240_14, ab_e240_17, ab_e240_18, ab_e240_21, ab_e240_22, ab_e240_25, ab_e240_26, ab_e240_29, ab_e240_31, ab_e240_34, ab_e240_35, ab_e240_38, ab_e240_41, ab_e240_42, bb_e240_43, ab_e240_46, ab_e240_49, ab_e240_50, ab_e240_51, ab_e240_52, ab_e240_53, ab_e240_56, ab_e240_57, ab_e240_58, ab_e240_61, ab_e240_62, ab_e240_63, ab_e240_64, bb_e240_65, ab_e240_68, ab_e240_71, ab_e240_72, ab_e240_73, bb_e240_74, ab_e240_77, ab_e240_80, ab_e240_83, ab_e240_84, ab_e240_85, ab_e240_88, ab_e240_91, ab_e240_92, ab_br_t, ab_br_f, ab_re_v (ab_zz _), ab_re_n (ab_zz _)]
    · intro _
      refine ⟨?_, fun hh => ?_, fun hh => ?_⟩
      · rw [bb_g1_eq]
        exact (if_neg (by omega)).symm
      · omega
      · omega
  · have o0 : 0 ≤ p + 1 ∧ p + 1 ≤ n := ⟨by omega, by omega⟩
    have hpr : bb_prs c n p = (0, p + 1) := by unfold bb_prs; rw [if_neg s0]
    rw [hpr]
    refine ⟨0, t, N, ?_, ?_⟩
    · have bl : bb_len 1 = 1 := by decide
      have by0 : bb_byt 1 (0) = 35 := by decide
      simp (discharger := first | assumption | exact True.intro | exact not_false | (refine ab_gK ?_; with_unfolding_all rfl) | exact ab_rgI (by omega) (by omega) | omega) only [ab_a240, x1, hcj, hch, bb_y270_116, bb_y271 (i := 1), bb_y272 (i := 1), bb_y273 (i := 1), bl, by0, bb_y274nt hX o0.1 o0.2 (x := 35) (by decide) s0, if_neg (show ¬ (1 : Int) = 0 by decide), bb_T1, bb_T2, bb_T3, bb_T4, bb_T6, bb_T7, bb_T495, bb_T496, bb_T17, bb_U2, bb_U3, bb_U4, bb_U6, bb_U7, bb_U496, ab_e240_0, ab_e240_1, ab_e240_2, ab_e240_5, ab_e240_6, ab_e240_7, ab_e240_10, ab_e240_11, ab_e240_14, ab_e240_17, ab_e240_18, ab_e240_21, ab_e240_22, ab_e240_25, ab_e240_26, ab_e240_29, ab_e240_31, ab_e240_34, ab_e240_35, ab_e240_38, ab_e240_41, ab_e240_42, bb_e240_43, ab_e240_46, ab_e240_49, ab_e240_50, ab_e240_51, ab_e240_52, ab_e240_53, ab_e240_56, ab_e240_57, ab_e240_58, ab_e240_61, ab_e240_62, ab_e240_63, ab_e240_64, bb_e240_65, ab_e240_68, ab_e240_71, ab_e240_72, ab_e240_73, bb_e240_74, ab_e240_77, ab_e240_80, ab_e240_83, ab_e240_84, ab_e240_85, ab_e240_88, ab_e240_91, ab_e240_92, ab_br_t, ab_br_f, ab_re_v (ab_zz _), ab_re_n (ab_zz _)]
    · exact fun x => absurd x (by show ¬ (0 : Int) = 1; decide)

theorem bb_y240_100 {K : ab_Kt} {D : Nat → Int → Int} {L : Nat → Int → Int64} {z : ab_Z} {c : Int → Int} {n : Int} (hX : bb_X D c n) {q p l k t : Int} {N : Int → Int} (p0 : 0 ≤ p) (pn : p < n) (hch : c p = 100) : ∃ k9 t9 N9, ab_cal K 240 [.ref 494] (ab_mk (bb_T D (q) (p) (l) (k) (t) N) L z) = some (.inl (some (.int (ab_I (bb_prs c n p).1))), ab_mk (bb_T D q ((bb_prs c n p).2) (c p) k9 t9 N9) L z) ∧ ((bb_prs c n p).1 = 1 → bb_VN c n p N9 t9) := by
  obtain ⟨⟨n0, n60⟩, x1, x2⟩ := id hX
  have hcj : ∀ j, 0 ≤ j → j < n → D 495 j = c j := fun j a b => (x2 j a b).1
  have hc1 : ∀ j, 0 ≤ j → j < n → ab_rg (c j) := fun j a b => ab_rgI (by have := (x2 j a b).2.1; omega) (by have := (x2 j a b).2.2; omega)
  by_cases s0 : (p + 1 < n ∧ 48 ≤ c (p + 1) ∧ c (p + 1) ≤ 57)
  · have o0 : 0 ≤ p + 1 ∧ p + 1 ≤ n := ⟨by omega, by omega⟩
    have hpr : bb_prs c n p = (1, p + 1 + 1) := by unfold bb_prs; rw [if_pos s0]
    rw [hpr]
    refine ⟨0 + 1, t, (bb_g1 N (0) (c (p + 1) - 48)), ?_, ?_⟩
    · have bl : bb_len 1 = 1 := by decide
      have by0 : bb_byt 1 (0) = 35 := by decide
      simp (discharger := first | assumption | exact True.intro | exact not_false | (refine ab_gK ?_; with_unfolding_all rfl) | exact ab_rgI (by omega) (by omega) | omega) only [ab_a240, x1, hcj, hch, bb_y270_100, bb_y271 (i := 1), bb_y272 (i := 1), bb_y273 (i := 1), bl, by0, bb_y274n hX o0.1 o0.2 s0, if_neg (show ¬ (1 : Int) = 0 by decide), bb_T1, bb_T2, bb_T3, bb_T4, bb_T6, bb_T7, bb_T495, bb_T496, bb_T17, bb_U2, bb_U3, bb_U4, bb_U6, bb_U7, bb_U496, ab_e240_0, ab_e240_1, ab_e240_2, ab_e240_5, ab_e240_6, ab_e240_7, ab_e240_10, ab_e240_11, ab_e240_14, ab_e240_17, ab_e240_18, ab_e240_21, ab_e240_22, ab_e240_25, ab_e240_26, ab_e240_29, ab_e240_31, ab_e240_34, ab_e240_35, ab_e240_38, ab_e240_41, ab_e240_42, bb_e240_43, ab_e240_46, ab_e240_49, ab_e240_50, ab_e240_51, ab_e240_52, ab_e240_53, ab_e240_56, ab_e240_57, ab_e240_58, ab_e240_61, ab_e240_62, ab_e240_63, ab_e240_64, bb_e240_65, ab_e240_68, ab_e240_71, ab_e240_72, ab_e240_73, bb_e240_74, ab_e240_77, ab_e240_80, ab_e240_83, ab_e240_84, ab_e240_85, ab_e240_88, ab_e240_91, ab_e240_92, ab_br_t, ab_br_f, ab_re_v (ab_zz _), ab_re_n (ab_zz _)]
    · intro _
      refine ⟨?_, fun hh => ?_, fun hh => ?_⟩
      · rw [bb_g1_eq]
        exact (if_neg (by omega)).symm
      · omega
      · omega
  · have o0 : 0 ≤ p + 1 ∧ p + 1 ≤ n := ⟨by omega, by omega⟩
    have hpr : bb_prs c n p = (0, p + 1) := by unfold bb_prs; rw [if_neg s0]
    rw [hpr]
    refine ⟨0, t, N, ?_, ?_⟩
    · have bl : bb_len 1 = 1 := by decide
      have by0 : bb_byt 1 (0) = 35 := by decide
      simp (discharger := first | assumption | exact True.intro | exact not_false | (refine ab_gK ?_; with_unfolding_all rfl) | exact ab_rgI (by omega) (by omega) | omega) only [ab_a240, x1, hcj, hch, bb_y270_100, bb_y271 (i := 1), bb_y272 (i := 1), bb_y273 (i := 1), bl, by0, bb_y274nt hX o0.1 o0.2 (x := 35) (by decide) s0, if_neg (show ¬ (1 : Int) = 0 by decide), bb_T1, bb_T2, bb_T3, bb_T4, bb_T6, bb_T7, bb_T495, bb_T496, bb_T17, bb_U2, bb_U3, bb_U4, bb_U6, bb_U7, bb_U496, ab_e240_0, ab_e240_1, ab_e240_2, ab_e240_5, ab_e240_6, ab_e240_7, ab_e240_10, ab_e240_11, ab_e240_14, ab_e240_17, ab_e240_18, ab_e240_21, ab_e240_22, ab_e240_25, ab_e240_26, ab_e240_29, ab_e240_31, ab_e240_34, ab_e240_35, ab_e240_38, ab_e240_41, ab_e240_42, bb_e240_43, ab_e240_46, ab_e240_49, ab_e240_50, ab_e240_51, ab_e240_52, ab_e240_53, ab_e240_56, ab_e240_57, ab_e240_58, ab_e240_61, ab_e240_62, ab_e240_63, ab_e240_64, bb_e240_65, ab_e240_68, ab_e240_71, ab_e240_72, ab_e240_73, bb_e240_74, ab_e240_77, ab_e240_80, ab_e240_83, ab_e240_84, ab_e240_85, ab_e240_88, ab_e240_91, ab_e240_92, ab_br_t, ab_br_f, ab_re_v (ab_zz _), ab_re_n (ab_zz _)]
    · exact fun x => absurd x (by show ¬ (0 : Int) = 1; decide)

theorem bb_y240_108 {K : ab_Kt} {D : Nat → Int → Int} {L : Nat → Int → Int64} {z : ab_Z} {c : Int → Int} {n : Int} (hX : bb_X D c n) {q p l k t : Int} {N : Int → Int} (p0 : 0 ≤ p) (pn : p < n) (hch : c p = 108) : ∃ k9 t9 N9, ab_cal K 240 [.ref 494] (ab_mk (bb_T D (q) (p) (l) (k) (t) N) L z) = some (.inl (some (.int (ab_I (bb_prl c n p).1))), ab_mk (bb_T D q ((bb_prl c n p).2) (c p) k9 t9 N9) L z) ∧ ((bb_prl c n p).1 = 1 → bb_VN c n p N9 t9) := by
  obtain ⟨⟨n0, n60⟩, x1, x2⟩ := id hX
  have hcj : ∀ j, 0 ≤ j → j < n → D 495 j = c j := fun j a b => (x2 j a b).1
  have hc1 : ∀ j, 0 ≤ j → j < n → ab_rg (c j) := fun j a b => ab_rgI (by have := (x2 j a b).2.1; omega) (by have := (x2 j a b).2.2; omega)
  by_cases s0 : (p + 1 < n ∧ 48 ≤ c (p + 1) ∧ c (p + 1) ≤ 57)
  · have o0 : 0 ≤ p + 1 ∧ p + 1 ≤ n := ⟨by omega, by omega⟩
    by_cases s1 : (p + 1 + 1 < n ∧ 48 ≤ c (p + 1 + 1) ∧ c (p + 1 + 1) ≤ 57)
    · have o1 : 0 ≤ p + 1 + 1 ∧ p + 1 + 1 ≤ n := ⟨by omega, by omega⟩
      have hpr : bb_prl c n p = (1, p + 1 + 1 + 1) := by unfold bb_prl; rw [if_pos s0, if_pos s1]
      rw [hpr]
      refine ⟨0 + 1 + 1, t, (bb_g1 (bb_g1 N (0) (c (p + 1) - 48)) (0 + 1) (c (p + 1 + 1) - 48)), ?_, ?_⟩
      · have bl : bb_len 2 = 2 := by decide
        have by0 : bb_byt 2 (0) = 35 := by decide
        have by1 : bb_byt 2 (0 + 1) = 35 := by decide
        simp (discharger := first | assumption | exact True.intro | exact not_false | (refine ab_gK ?_; with_unfolding_all rfl) | exact ab_rgI (by omega) (by omega) | omega) only [ab_a240, x1, hcj, hch, bb_y270_108, bb_y271 (i := 2), bb_y272 (i := 2), bb_y273 (i := 2), bl, by0, by1, bb_y274n hX o0.1 o0.2 s0, bb_y274n hX o1.1 o1.2 s1, if_neg (show ¬ (2 : Int) = 0 by decide), bb_T1, bb_T2, bb_T3, bb_T4, bb_T6, bb_T7, bb_T495, bb_T496, bb_T17, bb_U2, bb_U3, bb_U4, bb_U6, bb_U7, bb_U496, ab_e240_0, ab_e240_1, ab_e240_2, ab_e240_5, ab_e240_6, ab_e240_7, ab_e240_10, ab_e240_11, ab_e240_14, ab_e240_17, ab_e240_18, ab_e240_21, ab_e240_22, ab_e240_25, ab_e240_26, ab_e240_29, ab_e240_31, ab_e240_34, ab_e240_35, ab_e240_38, ab_e240_41, ab_e240_42, bb_e240_43, ab_e240_46, ab_e240_49, ab_e240_50, ab_e240_51, ab_e240_52, ab_e240_53, ab_e240_56, ab_e240_57, ab_e240_58, ab_e240_61, ab_e240_62, ab_e240_63, ab_e240_64, bb_e240_65, ab_e240_68, ab_e240_71, ab_e240_72, ab_e240_73, bb_e240_74, ab_e240_77, ab_e240_80, ab_e240_83, ab_e240_84, ab_e240_85, ab_e240_88, ab_e240_91, ab_e240_92, ab_br_t, ab_br_f, ab_re_v (ab_zz _), ab_re_n (ab_zz _)]
      · intro _
        refine ⟨?_, fun hh => ?_, fun hh => ?_⟩
        · rw [bb_g1_ne (by decide), bb_g1_eq]
          exact (if_neg (by omega)).symm
        · rw [show (0 : Int) + 1 = 1 from rfl, bb_g1_eq]
          exact (if_pos (by omega)).symm
        · omega
    · have o1 : 0 ≤ p + 1 + 1 ∧ p + 1 + 1 ≤ n := ⟨by omega, by omega⟩
      have hpr : bb_prl c n p = (0, p + 1 + 1) := by unfold bb_prl; rw [if_pos s0, if_neg s1]
      rw [hpr]
      refine ⟨0 + 1, t, (bb_g1 N (0) (c (p + 1) - 48)), ?_, ?_⟩
      · have bl : bb_len 2 = 2 := by decide
        have by0 : bb_byt 2 (0) = 35 := by decide
        have by1 : bb_byt 2 (0 + 1) = 35 := by decide
        simp (discharger := first | assumption | exact True.intro | exact not_false | (refine ab_gK ?_; with_unfolding_all rfl) | exact ab_rgI (by omega) (by omega) | omega) only [ab_a240, x1, hcj, hch, bb_y270_108, bb_y271 (i := 2), bb_y272 (i := 2), bb_y273 (i := 2), bl, by0, by1, bb_y274n hX o0.1 o0.2 s0, bb_y274nt hX o1.1 o1.2 (x := 35) (by decide) s1, if_neg (show ¬ (2 : Int) = 0 by decide), bb_T1, bb_T2, bb_T3, bb_T4, bb_T6, bb_T7, bb_T495, bb_T496, bb_T17, bb_U2, bb_U3, bb_U4, bb_U6, bb_U7, bb_U496, ab_e240_0, ab_e240_1, ab_e240_2, ab_e240_5, ab_e240_6, ab_e240_7, ab_e240_10, ab_e240_11, ab_e240_14, ab_e240_17, ab_e240_18, ab_e240_21, ab_e240_22, ab_e240_25, ab_e240_26, ab_e240_29, ab_e240_31, ab_e240_34, ab_e240_35, ab_e240_38, ab_e240_41, ab_e240_42, bb_e240_43, ab_e240_46, ab_e240_49, ab_e240_50, ab_e240_51, ab_e240_52, ab_e240_53, ab_e240_56, ab_e240_57, ab_e240_58, ab_e240_61, ab_e240_62, ab_e240_63, ab_e240_64, bb_e240_65, ab_e240_68, ab_e240_71, ab_e240_72, ab_e240_73, bb_e240_74, ab_e240_77, ab_e240_80, ab_e240_83, ab_e240_84, ab_e240_85, ab_e240_88, ab_e240_91, ab_e240_92, ab_br_t, ab_br_f, ab_re_v (ab_zz _), ab_re_n (ab_zz _)]
      · exact fun x => absurd x (by show ¬ (0 : Int) = 1; decide)
  · have o0 : 0 ≤ p + 1 ∧ p + 1 ≤ n := ⟨by omega, by omega⟩
    have hpr : bb_prl c n p = (0, p + 1) := by unfold bb_prl; rw [if_neg s0]
    rw [hpr]
    refine ⟨0, t, N, ?_, ?_⟩
    · have bl : bb_len 2 = 2 := by decide
      have by0 : bb_byt 2 (0) = 35 := by decide
      have by1 : bb_byt 2 (0 + 1) = 35 := by decide
      simp (discharger := first | assumption | exact True.intro | exact not_false | (refine ab_gK ?_; with_unfolding_all rfl) | exact ab_rgI (by omega) (by omega) | omega) only [ab_a240, x1, hcj, hch, bb_y270_108, bb_y271 (i := 2), bb_y272 (i := 2), bb_y273 (i := 2), bl, by0, by1, bb_y274nt hX o0.1 o0.2 (x := 35) (by decide) s0, if_neg (show ¬ (2 : Int) = 0 by decide), bb_T1, bb_T2, bb_T3, bb_T4, bb_T6, bb_T7, bb_T495, bb_T496, bb_T17, bb_U2, bb_U3, bb_U4, bb_U6, bb_U7, bb_U496, ab_e240_0, ab_e240_1, ab_e240_2, ab_e240_5, ab_e240_6, ab_e240_7, ab_e240_10, ab_e240_11, ab_e240_14, ab_e240_17, ab_e240_18, ab_e240_21, ab_e240_22, ab_e240_25, ab_e240_26, ab_e240_29, ab_e240_31, ab_e240_34, ab_e240_35, ab_e240_38, ab_e240_41, ab_e240_42, bb_e240_43, ab_e240_46, ab_e240_49, ab_e240_50, ab_e240_51, ab_e240_52, ab_e240_53, ab_e240_56, ab_e240_57, ab_e240_58, ab_e240_61, ab_e240_62, ab_e240_63, ab_e240_64, bb_e240_65, ab_e240_68, ab_e240_71, ab_e240_72, ab_e240_73, bb_e240_74, ab_e240_77, ab_e240_80, ab_e240_83, ab_e240_84, ab_e240_85, ab_e240_88, ab_e240_91, ab_e240_92, ab_br_t, ab_br_f, ab_re_v (ab_zz _), ab_re_n (ab_zz _)]
    · exact fun x => absurd x (by show ¬ (0 : Int) = 1; decide)

theorem bb_y240_112 {K : ab_Kt} {D : Nat → Int → Int} {L : Nat → Int → Int64} {z : ab_Z} {c : Int → Int} {n : Int} (hX : bb_X D c n) {q p l k t : Int} {N : Int → Int} (p0 : 0 ≤ p) (pn : p < n) (hch : c p = 112) : ∃ k9 t9 N9, ab_cal K 240 [.ref 494] (ab_mk (bb_T D (q) (p) (l) (k) (t) N) L z) = some (.inl (some (.int (ab_I (bb_prl c n p).1))), ab_mk (bb_T D q ((bb_prl c n p).2) (c p) k9 t9 N9) L z) ∧ ((bb_prl c n p).1 = 1 → bb_VN c n p N9 t9) := by
  obtain ⟨⟨n0, n60⟩, x1, x2⟩ := id hX
  have hcj : ∀ j, 0 ≤ j → j < n → D 495 j = c j := fun j a b => (x2 j a b).1
  have hc1 : ∀ j, 0 ≤ j → j < n → ab_rg (c j) := fun j a b => ab_rgI (by have := (x2 j a b).2.1; omega) (by have := (x2 j a b).2.2; omega)
  by_cases s0 : (p + 1 < n ∧ 48 ≤ c (p + 1) ∧ c (p + 1) ≤ 57)
  · have o0 : 0 ≤ p + 1 ∧ p + 1 ≤ n := ⟨by omega, by omega⟩
    by_cases s1 : (p + 1 + 1 < n ∧ 48 ≤ c (p + 1 + 1) ∧ c (p + 1 + 1) ≤ 57)
    · have o1 : 0 ≤ p + 1 + 1 ∧ p + 1 + 1 ≤ n := ⟨by omega, by omega⟩
      have hpr : bb_prl c n p = (1, p + 1 + 1 + 1) := by unfold bb_prl; rw [if_pos s0, if_pos s1]
      rw [hpr]
      refine ⟨0 + 1 + 1, t, (bb_g1 (bb_g1 N (0) (c (p + 1) - 48)) (0 + 1) (c (p + 1 + 1) - 48)), ?_, ?_⟩
      · have bl : bb_len 2 = 2 := by decide
        have by0 : bb_byt 2 (0) = 35 := by decide
        have by1 : bb_byt 2 (0 + 1) = 35 := by decide
        simp (discharger := first | assumption | exact True.intro | exact not_false | (refine ab_gK ?_; with_unfolding_all rfl) | exact ab_rgI (by omega) (by omega) | omega) only [ab_a240, x1, hcj, hch, bb_y270_112, bb_y271 (i := 2), bb_y272 (i := 2), bb_y273 (i := 2), bl, by0, by1, bb_y274n hX o0.1 o0.2 s0, bb_y274n hX o1.1 o1.2 s1, if_neg (show ¬ (2 : Int) = 0 by decide), bb_T1, bb_T2, bb_T3, bb_T4, bb_T6, bb_T7, bb_T495, bb_T496, bb_T17, bb_U2, bb_U3, bb_U4, bb_U6, bb_U7, bb_U496, ab_e240_0, ab_e240_1, ab_e240_2, ab_e240_5, ab_e240_6, ab_e240_7, ab_e240_10, ab_e240_11, ab_e240_14, ab_e240_17, ab_e240_18, ab_e240_21, ab_e240_22, ab_e240_25, ab_e240_26, ab_e240_29, ab_e240_31, ab_e240_34, ab_e240_35, ab_e240_38, ab_e240_41, ab_e240_42, bb_e240_43, ab_e240_46, ab_e240_49, ab_e240_50, ab_e240_51, ab_e240_52, ab_e240_53, ab_e240_56, ab_e240_57, ab_e240_58, ab_e240_61, ab_e240_62, ab_e240_63, ab_e240_64, bb_e240_65, ab_e240_68, ab_e240_71, ab_e240_72, ab_e240_73, bb_e240_74, ab_e240_77, ab_e240_80, ab_e240_83, ab_e240_84, ab_e240_85, ab_e240_88, ab_e240_91, ab_e240_92, ab_br_t, ab_br_f, ab_re_v (ab_zz _), ab_re_n (ab_zz _)]
      · intro _
        refine ⟨?_, fun hh => ?_, fun hh => ?_⟩
        · rw [bb_g1_ne (by decide), bb_g1_eq]
          exact (if_neg (by omega)).symm
        · rw [show (0 : Int) + 1 = 1 from rfl, bb_g1_eq]
          exact (if_pos (by omega)).symm
        · omega
    · have o1 : 0 ≤ p + 1 + 1 ∧ p + 1 + 1 ≤ n := ⟨by omega, by omega⟩
      have hpr : bb_prl c n p = (0, p + 1 + 1) := by unfold bb_prl; rw [if_pos s0, if_neg s1]
      rw [hpr]
      refine ⟨0 + 1, t, (bb_g1 N (0) (c (p + 1) - 48)), ?_, ?_⟩
      · have bl : bb_len 2 = 2 := by decide
        have by0 : bb_byt 2 (0) = 35 := by decide
        have by1 : bb_byt 2 (0 + 1) = 35 := by decide
        simp (discharger := first | assumption | exact True.intro | exact not_false | (refine ab_gK ?_; with_unfolding_all rfl) | exact ab_rgI (by omega) (by omega) | omega) only [ab_a240, x1, hcj, hch, bb_y270_112, bb_y271 (i := 2), bb_y272 (i := 2), bb_y273 (i := 2), bl, by0, by1, bb_y274n hX o0.1 o0.2 s0, bb_y274nt hX o1.1 o1.2 (x := 35) (by decide) s1, if_neg (show ¬ (2 : Int) = 0 by decide), bb_T1, bb_T2, bb_T3, bb_T4, bb_T6, bb_T7, bb_T495, bb_T496, bb_T17, bb_U2, bb_U3, bb_U4, bb_U6, bb_U7, bb_U496, ab_e240_0, ab_e240_1, ab_e240_2, ab_e240_5, ab_e240_6, ab_e240_7, ab_e240_10, ab_e240_11, ab_e240_14, ab_e240_17, ab_e240_18, ab_e240_21, ab_e240_22, ab_e240_25, ab_e240_26, ab_e240_29, ab_e240_31, ab_e240_34, ab_e240_35, ab_e240_38, ab_e240_41, ab_e240_42, bb_e240_43, ab_e240_46, ab_e240_49, ab_e240_50, ab_e240_51, ab_e240_52, ab_e240_53, ab_e240_56, ab_e240_57, ab_e240_58, ab_e240_61, ab_e240_62, ab_e240_63, ab_e240_64, bb_e240_65, ab_e240_68, ab_e240_71, ab_e240_72, ab_e240_73, bb_e240_74, ab_e240_77, ab_e240_80, ab_e240_83, ab_e240_84, ab_e240_85, ab_e240_88, ab_e240_91, ab_e240_92, ab_br_t, ab_br_f, ab_re_v (ab_zz _), ab_re_n (ab_zz _)]
      · exact fun x => absurd x (by show ¬ (0 : Int) = 1; decide)
  · have o0 : 0 ≤ p + 1 ∧ p + 1 ≤ n := ⟨by omega, by omega⟩
    have hpr : bb_prl c n p = (0, p + 1) := by unfold bb_prl; rw [if_neg s0]
    rw [hpr]
    refine ⟨0, t, N, ?_, ?_⟩
    · have bl : bb_len 2 = 2 := by decide
      have by0 : bb_byt 2 (0) = 35 := by decide
      have by1 : bb_byt 2 (0 + 1) = 35 := by decide
      simp (discharger := first | assumption | exact True.intro | exact not_false | (refine ab_gK ?_; with_unfolding_all rfl) | exact ab_rgI (by omega) (by omega) | omega) only [ab_a240, x1, hcj, hch, bb_y270_112, bb_y271 (i := 2), bb_y272 (i := 2), bb_y273 (i := 2), bl, by0, by1, bb_y274nt hX o0.1 o0.2 (x := 35) (by decide) s0, if_neg (show ¬ (2 : Int) = 0 by decide), bb_T1, bb_T2, bb_T3, bb_T4, bb_T6, bb_T7, bb_T495, bb_T496, bb_T17, bb_U2, bb_U3, bb_U4, bb_U6, bb_U7, bb_U496, ab_e240_0, ab_e240_1, ab_e240_2, ab_e240_5, ab_e240_6, ab_e240_7, ab_e240_10, ab_e240_11, ab_e240_14, ab_e240_17, ab_e240_18, ab_e240_21, ab_e240_22, ab_e240_25, ab_e240_26, ab_e240_29, ab_e240_31, ab_e240_34, ab_e240_35, ab_e240_38, ab_e240_41, ab_e240_42, bb_e240_43, ab_e240_46, ab_e240_49, ab_e240_50, ab_e240_51, ab_e240_52, ab_e240_53, ab_e240_56, ab_e240_57, ab_e240_58, ab_e240_61, ab_e240_62, ab_e240_63, ab_e240_64, bb_e240_65, ab_e240_68, ab_e240_71, ab_e240_72, ab_e240_73, bb_e240_74, ab_e240_77, ab_e240_80, ab_e240_83, ab_e240_84, ab_e240_85, ab_e240_88, ab_e240_91, ab_e240_92, ab_br_t, ab_br_f, ab_re_v (ab_zz _), ab_re_n (ab_zz _)]
    · exact fun x => absurd x (by show ¬ (0 : Int) = 1; decide)

theorem bb_y240_101 {K : ab_Kt} {D : Nat → Int → Int} {L : Nat → Int → Int64} {z : ab_Z} {c : Int → Int} {n : Int} (hX : bb_X D c n) {q p l k t : Int} {N : Int → Int} (p0 : 0 ≤ p) (pn : p < n) (hch : c p = 101) : ∃ k9 t9 N9, ab_cal K 240 [.ref 494] (ab_mk (bb_T D (q) (p) (l) (k) (t) N) L z) = some (.inl (some (.int (ab_I (bb_pre c n p).1))), ab_mk (bb_T D q ((bb_pre c n p).2) (c p) k9 t9 N9) L z) ∧ ((bb_pre c n p).1 = 1 → bb_VN c n p N9 t9) := by
  obtain ⟨⟨n0, n60⟩, x1, x2⟩ := id hX
  have hcj : ∀ j, 0 ≤ j → j < n → D 495 j = c j := fun j a b => (x2 j a b).1
  have hc1 : ∀ j, 0 ≤ j → j < n → ab_rg (c j) := fun j a b => ab_rgI (by have := (x2 j a b).2.1; omega) (by have := (x2 j a b).2.2; omega)
  by_cases s0 : (p + 1 < n ∧ 48 ≤ c (p + 1) ∧ c (p + 1) ≤ 57)
  · have o0 : 0 ≤ p + 1 ∧ p + 1 ≤ n := ⟨by omega, by omega⟩
    by_cases s1 : (p + 1 + 1 < n ∧ c (p + 1 + 1) = 47)
    · have o1 : 0 ≤ p + 1 + 1 ∧ p + 1 + 1 ≤ n := ⟨by omega, by omega⟩
      by_cases s2 : (p + 1 + 1 + 1 < n ∧ 48 ≤ c (p + 1 + 1 + 1) ∧ c (p + 1 + 1 + 1) ≤ 57)
      · have o2 : 0 ≤ p + 1 + 1 + 1 ∧ p + 1 + 1 + 1 ≤ n := ⟨by omega, by omega⟩
        have w2 := bb_nP_rg c n (p + 1 + 1 + 1)
        have y2 := w2.2.2 s2.1
        have hpr : bb_pre c n p = (1, bb_nP c n (p + 1 + 1 + 1)) := by unfold bb_pre; rw [if_pos s0, if_pos s1, if_pos s2]
        rw [hpr]
        refine ⟨0 + 1 + 1, t, (bb_g1 (bb_g1 N (0) (c (p + 1) - 48)) (0 + 1) (bb_nV c n (p + 1 + 1 + 1))), ?_, ?_⟩
        · have bl : bb_len 3 = 3 := by decide
          have by0 : bb_byt 3 (0) = 35 := by decide
          have by1 : bb_byt 3 (0 + 1) = 47 := by decide
          have by2 : bb_byt 3 (0 + 1 + 1) = 37 := by decide
          simp (discharger := first | assumption | exact True.intro | exact not_false | (refine ab_gK ?_; with_unfolding_all rfl) | exact ab_rgI (by omega) (by omega) | omega) only [ab_a240, x1, hcj, hch, bb_y270_101, bb_y271 (i := 3), bb_y272 (i := 3), bb_y273 (i := 3), bl, by0, by1, by2, bb_y274n hX o0.1 o0.2 s0, bb_y274c hX o1.1 o1.2 (x := 47) (by decide) s1, bb_y274w hX o2.1 o2.2 s2, if_neg (show ¬ (3 : Int) = 0 by decide), bb_T1, bb_T2, bb_T3, bb_T4, bb_T6, bb_T7, bb_T495, bb_T496, bb_T17, bb_U2, bb_U3, bb_U4, bb_U6, bb_U7, bb_U496, ab_e240_0, ab_e240_1, ab_e240_2, ab_e240_5, ab_e240_6, ab_e240_7, ab_e240_10, ab_e240_11, ab_e240_14, ab_e240_17, ab_e240_18, ab_e240_21, ab_e240_22, ab_e240_25, ab_e240_26, ab_e240_29, ab_e240_31, ab_e240_34, ab_e240_35, ab_e240_38, ab_e240_41, ab_e240_42, bb_e240_43, ab_e240_46, ab_e240_49, ab_e240_50, ab_e240_51, ab_e240_52, ab_e240_53, ab_e240_56, ab_e240_57, ab_e240_58, ab_e240_61, ab_e240_62, ab_e240_63, ab_e240_64, bb_e240_65, ab_e240_68, ab_e240_71, ab_e240_72, ab_e240_73, bb_e240_74, ab_e240_77, ab_e240_80, ab_e240_83, ab_e240_84, ab_e240_85, ab_e240_88, ab_e240_91, ab_e240_92, ab_br_t, ab_br_f, ab_re_v (ab_zz _), ab_re_n (ab_zz _)]
        · intro _
          refine ⟨?_, fun hh => ?_, fun hh => ?_⟩
          · rw [bb_g1_ne (by decide), bb_g1_eq]
            exact (if_neg (by omega)).symm
          · rw [show (0 : Int) + 1 = 1 from rfl, bb_g1_eq]
            exact (if_neg (by omega)).symm
          · omega
      · have o2 : 0 ≤ p + 1 + 1 + 1 ∧ p + 1 + 1 + 1 ≤ n := ⟨by omega, by omega⟩
        have hpr : bb_pre c n p = (0, p + 1 + 1 + 1) := by unfold bb_pre; rw [if_pos s0, if_pos s1, if_neg s2]
        rw [hpr]
        refine ⟨0 + 1, t, (bb_g1 N (0) (c (p + 1) - 48)), ?_, ?_⟩
        · have bl : bb_len 3 = 3 := by decide
          have by0 : bb_byt 3 (0) = 35 := by decide
          have by1 : bb_byt 3 (0 + 1) = 47 := by decide
          have by2 : bb_byt 3 (0 + 1 + 1) = 37 := by decide
          simp (discharger := first | assumption | exact True.intro | exact not_false | (refine ab_gK ?_; with_unfolding_all rfl) | exact ab_rgI (by omega) (by omega) | omega) only [ab_a240, x1, hcj, hch, bb_y270_101, bb_y271 (i := 3), bb_y272 (i := 3), bb_y273 (i := 3), bl, by0, by1, by2, bb_y274n hX o0.1 o0.2 s0, bb_y274c hX o1.1 o1.2 (x := 47) (by decide) s1, bb_y274nt hX o2.1 o2.2 (x := 37) (by decide) s2, if_neg (show ¬ (3 : Int) = 0 by decide), bb_T1, bb_T2, bb_T3, bb_T4, bb_T6, bb_T7, bb_T495, bb_T496, bb_T17, bb_U2, bb_U3, bb_U4, bb_U6, bb_U7, bb_U496, ab_e240_0, ab_e240_1, ab_e240_2, ab_e240_5, ab_e240_6, ab_e240_7, ab_e240_10, ab_e240_11, ab_e240_14, ab_e240_17, ab_e240_18, ab_e240_21, ab_e240_22, ab_e240_25, ab_e240_26, ab_e240_29, ab_e240_31, ab_e240_34, ab_e240_35, ab_e240_38, ab_e240_41, ab_e240_42, bb_e240_43, ab_e240_46, ab_e240_49, ab_e240_50, ab_e240_51, ab_e240_52, ab_e240_53, ab_e240_56, ab_e240_57, ab_e240_58, ab_e240_61, ab_e240_62, ab_e240_63, ab_e240_64, bb_e240_65, ab_e240_68, ab_e240_71, ab_e240_72, ab_e240_73, bb_e240_74, ab_e240_77, ab_e240_80, ab_e240_83, ab_e240_84, ab_e240_85, ab_e240_88, ab_e240_91, ab_e240_92, ab_br_t, ab_br_f, ab_re_v (ab_zz _), ab_re_n (ab_zz _)]
        · exact fun x => absurd x (by show ¬ (0 : Int) = 1; decide)
    · have o1 : 0 ≤ p + 1 + 1 ∧ p + 1 + 1 ≤ n := ⟨by omega, by omega⟩
      have hpr : bb_pre c n p = (0, p + 1 + 1) := by unfold bb_pre; rw [if_pos s0, if_neg s1]
      rw [hpr]
      refine ⟨0 + 1, t, (bb_g1 N (0) (c (p + 1) - 48)), ?_, ?_⟩
      · have bl : bb_len 3 = 3 := by decide
        have by0 : bb_byt 3 (0) = 35 := by decide
        have by1 : bb_byt 3 (0 + 1) = 47 := by decide
        have by2 : bb_byt 3 (0 + 1 + 1) = 37 := by decide
        simp (discharger := first | assumption | exact True.intro | exact not_false | (refine ab_gK ?_; with_unfolding_all rfl) | exact ab_rgI (by omega) (by omega) | omega) only [ab_a240, x1, hcj, hch, bb_y270_101, bb_y271 (i := 3), bb_y272 (i := 3), bb_y273 (i := 3), bl, by0, by1, by2, bb_y274n hX o0.1 o0.2 s0, bb_y274ct hX o1.1 o1.2 (x := 47) (by decide) s1, if_neg (show ¬ (3 : Int) = 0 by decide), bb_T1, bb_T2, bb_T3, bb_T4, bb_T6, bb_T7, bb_T495, bb_T496, bb_T17, bb_U2, bb_U3, bb_U4, bb_U6, bb_U7, bb_U496, ab_e240_0, ab_e240_1, ab_e240_2, ab_e240_5, ab_e240_6, ab_e240_7, ab_e240_10, ab_e240_11, ab_e240_14, ab_e240_17, ab_e240_18, ab_e240_21, ab_e240_22, ab_e240_25, ab_e240_26, ab_e240_29, ab_e240_31, ab_e240_34, ab_e240_35, ab_e240_38, ab_e240_41, ab_e240_42, bb_e240_43, ab_e240_46, ab_e240_49, ab_e240_50, ab_e240_51, ab_e240_52, ab_e240_53, ab_e240_56, ab_e240_57, ab_e240_58, ab_e240_61, ab_e240_62, ab_e240_63, ab_e240_64, bb_e240_65, ab_e240_68, ab_e240_71, ab_e240_72, ab_e240_73, bb_e240_74, ab_e240_77, ab_e240_80, ab_e240_83, ab_e240_84, ab_e240_85, ab_e240_88, ab_e240_91, ab_e240_92, ab_br_t, ab_br_f, ab_re_v (ab_zz _), ab_re_n (ab_zz _)]
      · exact fun x => absurd x (by show ¬ (0 : Int) = 1; decide)
  · have o0 : 0 ≤ p + 1 ∧ p + 1 ≤ n := ⟨by omega, by omega⟩
    have hpr : bb_pre c n p = (0, p + 1) := by unfold bb_pre; rw [if_neg s0]
    rw [hpr]
    refine ⟨0, t, N, ?_, ?_⟩
    · have bl : bb_len 3 = 3 := by decide
      have by0 : bb_byt 3 (0) = 35 := by decide
      have by1 : bb_byt 3 (0 + 1) = 47 := by decide
      have by2 : bb_byt 3 (0 + 1 + 1) = 37 := by decide
      simp (discharger := first | assumption | exact True.intro | exact not_false | (refine ab_gK ?_; with_unfolding_all rfl) | exact ab_rgI (by omega) (by omega) | omega) only [ab_a240, x1, hcj, hch, bb_y270_101, bb_y271 (i := 3), bb_y272 (i := 3), bb_y273 (i := 3), bl, by0, by1, by2, bb_y274nt hX o0.1 o0.2 (x := 35) (by decide) s0, if_neg (show ¬ (3 : Int) = 0 by decide), bb_T1, bb_T2, bb_T3, bb_T4, bb_T6, bb_T7, bb_T495, bb_T496, bb_T17, bb_U2, bb_U3, bb_U4, bb_U6, bb_U7, bb_U496, ab_e240_0, ab_e240_1, ab_e240_2, ab_e240_5, ab_e240_6, ab_e240_7, ab_e240_10, ab_e240_11, ab_e240_14, ab_e240_17, ab_e240_18, ab_e240_21, ab_e240_22, ab_e240_25, ab_e240_26, ab_e240_29, ab_e240_31, ab_e240_34, ab_e240_35, ab_e240_38, ab_e240_41, ab_e240_42, bb_e240_43, ab_e240_46, ab_e240_49, ab_e240_50, ab_e240_51, ab_e240_52, ab_e240_53, ab_e240_56, ab_e240_57, ab_e240_58, ab_e240_61, ab_e240_62, ab_e240_63, ab_e240_64, bb_e240_65, ab_e240_68, ab_e240_71, ab_e240_72, ab_e240_73, bb_e240_74, ab_e240_77, ab_e240_80, ab_e240_83, ab_e240_84, ab_e240_85, ab_e240_88, ab_e240_91, ab_e240_92, ab_br_t, ab_br_f, ab_re_v (ab_zz _), ab_re_n (ab_zz _)]
    · exact fun x => absurd x (by show ¬ (0 : Int) = 1; decide)

theorem bb_y240_119 {K : ab_Kt} {D : Nat → Int → Int} {L : Nat → Int → Int64} {z : ab_Z} {c : Int → Int} {n : Int} (hX : bb_X D c n) {q p l k t : Int} {N : Int → Int} (p0 : 0 ≤ p) (pn : p < n) (hch : c p = 119) : ∃ k9 t9 N9, ab_cal K 240 [.ref 494] (ab_mk (bb_T D (q) (p) (l) (k) (t) N) L z) = some (.inl (some (.int (ab_I (bb_prw c n p).1))), ab_mk (bb_T D q ((bb_prw c n p).2) (c p) k9 t9 N9) L z) ∧ ((bb_prw c n p).1 = 1 → bb_VN c n p N9 t9) := by
  obtain ⟨⟨n0, n60⟩, x1, x2⟩ := id hX
  have hcj : ∀ j, 0 ≤ j → j < n → D 495 j = c j := fun j a b => (x2 j a b).1
  have hc1 : ∀ j, 0 ≤ j → j < n → ab_rg (c j) := fun j a b => ab_rgI (by have := (x2 j a b).2.1; omega) (by have := (x2 j a b).2.2; omega)
  by_cases s0 : (p + 1 < n ∧ 48 ≤ c (p + 1) ∧ c (p + 1) ≤ 57)
  · have o0 : 0 ≤ p + 1 ∧ p + 1 ≤ n := ⟨by omega, by omega⟩
    have w0 := bb_nP_rg c n (p + 1)
    have y0 := w0.2.2 s0.1
    have hpr : bb_prw c n p = (1, bb_nP c n (p + 1)) := by unfold bb_prw; rw [if_pos s0]
    rw [hpr]
    refine ⟨0 + 1, t, (bb_g1 N (0) (bb_nV c n (p + 1))), ?_, ?_⟩
    · have bl : bb_len 4 = 1 := by decide
      have by0 : bb_byt 4 (0) = 37 := by decide
      simp (discharger := first | assumption | exact True.intro | exact not_false | (refine ab_gK ?_; with_unfolding_all rfl) | exact ab_rgI (by omega) (by omega) | omega) only [ab_a240, x1, hcj, hch, bb_y270_119, bb_y271 (i := 4), bb_y272 (i := 4), bb_y273 (i := 4), bl, by0, bb_y274w hX o0.1 o0.2 s0, if_neg (show ¬ (1 : Int) = 0 by decide), bb_T1, bb_T2, bb_T3, bb_T4, bb_T6, bb_T7, bb_T495, bb_T496, bb_T17, bb_U2, bb_U3, bb_U4, bb_U6, bb_U7, bb_U496, ab_e240_0, ab_e240_1, ab_e240_2, ab_e240_5, ab_e240_6, ab_e240_7, ab_e240_10, ab_e240_11, ab_e240_14, ab_e240_17, ab_e240_18, ab_e240_21, ab_e240_22, ab_e240_25, ab_e240_26, ab_e240_29, ab_e240_31, ab_e240_34, ab_e240_35, ab_e240_38, ab_e240_41, ab_e240_42, bb_e240_43, ab_e240_46, ab_e240_49, ab_e240_50, ab_e240_51, ab_e240_52, ab_e240_53, ab_e240_56, ab_e240_57, ab_e240_58, ab_e240_61, ab_e240_62, ab_e240_63, ab_e240_64, bb_e240_65, ab_e240_68, ab_e240_71, ab_e240_72, ab_e240_73, bb_e240_74, ab_e240_77, ab_e240_80, ab_e240_83, ab_e240_84, ab_e240_85, ab_e240_88, ab_e240_91, ab_e240_92, ab_br_t, ab_br_f, ab_re_v (ab_zz _), ab_re_n (ab_zz _)]
    · intro _
      refine ⟨?_, fun hh => ?_, fun hh => ?_⟩
      · rw [bb_g1_eq]
        exact (if_pos hch).symm
      · omega
      · omega
  · have o0 : 0 ≤ p + 1 ∧ p + 1 ≤ n := ⟨by omega, by omega⟩
    have hpr : bb_prw c n p = (0, p + 1) := by unfold bb_prw; rw [if_neg s0]
    rw [hpr]
    refine ⟨0, t, N, ?_, ?_⟩
    · have bl : bb_len 4 = 1 := by decide
      have by0 : bb_byt 4 (0) = 37 := by decide
      simp (discharger := first | assumption | exact True.intro | exact not_false | (refine ab_gK ?_; with_unfolding_all rfl) | exact ab_rgI (by omega) (by omega) | omega) only [ab_a240, x1, hcj, hch, bb_y270_119, bb_y271 (i := 4), bb_y272 (i := 4), bb_y273 (i := 4), bl, by0, bb_y274nt hX o0.1 o0.2 (x := 37) (by decide) s0, if_neg (show ¬ (1 : Int) = 0 by decide), bb_T1, bb_T2, bb_T3, bb_T4, bb_T6, bb_T7, bb_T495, bb_T496, bb_T17, bb_U2, bb_U3, bb_U4, bb_U6, bb_U7, bb_U496, ab_e240_0, ab_e240_1, ab_e240_2, ab_e240_5, ab_e240_6, ab_e240_7, ab_e240_10, ab_e240_11, ab_e240_14, ab_e240_17, ab_e240_18, ab_e240_21, ab_e240_22, ab_e240_25, ab_e240_26, ab_e240_29, ab_e240_31, ab_e240_34, ab_e240_35, ab_e240_38, ab_e240_41, ab_e240_42, bb_e240_43, ab_e240_46, ab_e240_49, ab_e240_50, ab_e240_51, ab_e240_52, ab_e240_53, ab_e240_56, ab_e240_57, ab_e240_58, ab_e240_61, ab_e240_62, ab_e240_63, ab_e240_64, bb_e240_65, ab_e240_68, ab_e240_71, ab_e240_72, ab_e240_73, bb_e240_74, ab_e240_77, ab_e240_80, ab_e240_83, ab_e240_84, ab_e240_85, ab_e240_88, ab_e240_91, ab_e240_92, ab_br_t, ab_br_f, ab_re_v (ab_zz _), ab_re_n (ab_zz _)]
    · exact fun x => absurd x (by show ¬ (0 : Int) = 1; decide)

