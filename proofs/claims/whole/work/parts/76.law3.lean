/-! ===== the law, to its end ===== -/
theorem bb_step {K : ab_Kt} {D : Nat → Int → Int} {L : Nat → Int → Int64} {z : ab_Z} {n i a : Int} (hn : n < 512) (h : bb_INV n D L z) (i0 : 0 ≤ i) (i5 : i + 5 ≤ (K.1 : Int)) (hK : (K.1 : Int) ≤ 3000) (ha : ab_rg a) {x6 x7 x8 : Option Value} : ∃ D' L' z' y6 y7 y8, ab_ev K 0 44 [some (.ref 0), some (.ref 17), some (.ref 500), some (.ref 508), some (.ref 509), some (.int (ab_I (i))), x6, x7, x8] [.int (ab_I a)] (ab_mk D L z) = ab_ev K 0 2670 [some (.ref 0), some (.ref 17), some (.ref 500), some (.ref 508), some (.ref 509), some (.int (ab_I (i))), y6, y7, y8] [] (ab_mk D' L' z') ∧ bb_INV (n + 1) D' L' z' ∧ z.2.2.2.2.2.1 ≤ z'.2.2.2.2.2.1 ∧ z.2.2.2.2.2.2 ≤ z'.2.2.2.2.2.2 := by
  by_cases h0 : a = 0
  · obtain ⟨D', L', z', y6, y7, y8, e, r⟩ := bb_c0 (K := K) hn h i0 i5 hK (x6 := x6) (x7 := x7) (x8 := x8)
    exact ⟨D', L', z', y6, y7, y8, (ab_e0_44c0 h0).trans e, r⟩
  by_cases h1 : a = 1
  · obtain ⟨D', L', z', y6, y7, y8, e, r⟩ := bb_c1 (K := K) hn h i0 i5 hK (x6 := x6) (x7 := x7) (x8 := x8)
    exact ⟨D', L', z', y6, y7, y8, (ab_e0_44c1 h1).trans e, r⟩
  by_cases h2 : a = 2
  · obtain ⟨D', L', z', y6, y7, y8, e, r⟩ := bb_c2 (K := K) hn h i0 i5 hK (x6 := x6) (x7 := x7) (x8 := x8)
    exact ⟨D', L', z', y6, y7, y8, (ab_e0_44c2 h2).trans e, r⟩
  by_cases h3 : a = 3
  · obtain ⟨D', L', z', y6, y7, y8, e, r⟩ := bb_c3 (K := K) hn h i0 i5 hK (x6 := x6) (x7 := x7) (x8 := x8)
    exact ⟨D', L', z', y6, y7, y8, (ab_e0_44c3 h3).trans e, r⟩
  by_cases h4 : a = 4
  · obtain ⟨D', L', z', y6, y7, y8, e, r⟩ := bb_c4 (K := K) hn h i0 i5 hK (x6 := x6) (x7 := x7) (x8 := x8)
    exact ⟨D', L', z', y6, y7, y8, (ab_e0_44c4 h4).trans e, r⟩
  by_cases h5 : a = 5
  · obtain ⟨D', L', z', y6, y7, y8, e, r⟩ := bb_c5 (K := K) hn h i0 i5 hK (x6 := x6) (x7 := x7) (x8 := x8)
    exact ⟨D', L', z', y6, y7, y8, (ab_e0_44c5 h5).trans e, r⟩
  by_cases h6 : a = 6
  · obtain ⟨D', L', z', y6, y7, y8, e, r⟩ := bb_c6 (K := K) hn h i0 i5 hK (x6 := x6) (x7 := x7) (x8 := x8)
    exact ⟨D', L', z', y6, y7, y8, (ab_e0_44c6 h6).trans e, r⟩
  by_cases h7 : a = 7
  · obtain ⟨D', L', z', y6, y7, y8, e, r⟩ := bb_c7 (K := K) hn h i0 i5 hK (x6 := x6) (x7 := x7) (x8 := x8)
    exact ⟨D', L', z', y6, y7, y8, (ab_e0_44c7 h7).trans e, r⟩
  by_cases h8 : a = 8
  · obtain ⟨D', L', z', y6, y7, y8, e, r⟩ := bb_c8 (K := K) hn h i0 i5 hK (x6 := x6) (x7 := x7) (x8 := x8)
    exact ⟨D', L', z', y6, y7, y8, (ab_e0_44c8 h8).trans e, r⟩
  by_cases h9 : a = 9
  · obtain ⟨D', L', z', y6, y7, y8, e, r⟩ := bb_c9 (K := K) hn h i0 i5 hK (x6 := x6) (x7 := x7) (x8 := x8)
    exact ⟨D', L', z', y6, y7, y8, (ab_e0_44c9 h9).trans e, r⟩
  by_cases h10 : a = 10
  · obtain ⟨D', L', z', y6, y7, y8, e, r⟩ := bb_c10 (K := K) hn h i0 i5 hK (x6 := x6) (x7 := x7) (x8 := x8)
    exact ⟨D', L', z', y6, y7, y8, (ab_e0_44c10 h10).trans e, r⟩
  by_cases h11 : a = 11
  · obtain ⟨D', L', z', y6, y7, y8, e, r⟩ := bb_c11 (K := K) hn h i0 i5 hK (x6 := x6) (x7 := x7) (x8 := x8)
    exact ⟨D', L', z', y6, y7, y8, (ab_e0_44c11 h11).trans e, r⟩
  by_cases h12 : a = 12
  · obtain ⟨D', L', z', y6, y7, y8, e, r⟩ := bb_c12 (K := K) hn h i0 i5 hK (x6 := x6) (x7 := x7) (x8 := x8)
    exact ⟨D', L', z', y6, y7, y8, (ab_e0_44c12 h12).trans e, r⟩
  by_cases h13 : a = 13
  · obtain ⟨D', L', z', y6, y7, y8, e, r⟩ := bb_c13 (K := K) hn h i0 i5 hK (x6 := x6) (x7 := x7) (x8 := x8)
    exact ⟨D', L', z', y6, y7, y8, (ab_e0_44c13 h13).trans e, r⟩
  by_cases h14 : a = 14
  · obtain ⟨D', L', z', y6, y7, y8, e, r⟩ := bb_c14 (K := K) hn h i0 i5 hK (x6 := x6) (x7 := x7) (x8 := x8)
    exact ⟨D', L', z', y6, y7, y8, (ab_e0_44c14 h14).trans e, r⟩
  by_cases h15 : a = 15
  · obtain ⟨D', L', z', y6, y7, y8, e, r⟩ := bb_c15 (K := K) hn h i0 i5 hK (x6 := x6) (x7 := x7) (x8 := x8)
    exact ⟨D', L', z', y6, y7, y8, (ab_e0_44c15 h15).trans e, r⟩
  by_cases h16 : a = 16
  · obtain ⟨D', L', z', y6, y7, y8, e, r⟩ := bb_c16 (K := K) hn h i0 i5 hK (x6 := x6) (x7 := x7) (x8 := x8)
    exact ⟨D', L', z', y6, y7, y8, (ab_e0_44c16 h16).trans e, r⟩
  by_cases h17 : a = 17
  · obtain ⟨D', L', z', y6, y7, y8, e, r⟩ := bb_c17 (K := K) hn h i0 i5 hK (x6 := x6) (x7 := x7) (x8 := x8)
    exact ⟨D', L', z', y6, y7, y8, (ab_e0_44c17 h17).trans e, r⟩
  by_cases h18 : a = 18
  · obtain ⟨D', L', z', y6, y7, y8, e, r⟩ := bb_c18 (K := K) hn h i0 i5 hK (x6 := x6) (x7 := x7) (x8 := x8)
    exact ⟨D', L', z', y6, y7, y8, (ab_e0_44c18 h18).trans e, r⟩
  by_cases h19 : a = 19
  · obtain ⟨D', L', z', y6, y7, y8, e, r⟩ := bb_c19 (K := K) hn h i0 i5 hK (x6 := x6) (x7 := x7) (x8 := x8)
    exact ⟨D', L', z', y6, y7, y8, (ab_e0_44c19 h19).trans e, r⟩
  by_cases h20 : a = 20
  · obtain ⟨D', L', z', y6, y7, y8, e, r⟩ := bb_c20 (K := K) hn h i0 i5 hK (x6 := x6) (x7 := x7) (x8 := x8)
    exact ⟨D', L', z', y6, y7, y8, (ab_e0_44c20 h20).trans e, r⟩
  by_cases h21 : a = 21
  · obtain ⟨D', L', z', y6, y7, y8, e, r⟩ := bb_c21 (K := K) hn h i0 i5 hK (x6 := x6) (x7 := x7) (x8 := x8)
    exact ⟨D', L', z', y6, y7, y8, (ab_e0_44c21 h21).trans e, r⟩
  by_cases h22 : a = 22
  · obtain ⟨D', L', z', y6, y7, y8, e, r⟩ := bb_c22 (K := K) hn h i0 i5 hK (x6 := x6) (x7 := x7) (x8 := x8)
    exact ⟨D', L', z', y6, y7, y8, (ab_e0_44c22 h22).trans e, r⟩
  by_cases h23 : a = 23
  · obtain ⟨D', L', z', y6, y7, y8, e, r⟩ := bb_c23 (K := K) hn h i0 i5 hK (x6 := x6) (x7 := x7) (x8 := x8)
    exact ⟨D', L', z', y6, y7, y8, (ab_e0_44c23 h23).trans e, r⟩
  by_cases h24 : a = 24
  · obtain ⟨D', L', z', y6, y7, y8, e, r⟩ := bb_c24 (K := K) hn h i0 i5 hK (x6 := x6) (x7 := x7) (x8 := x8)
    exact ⟨D', L', z', y6, y7, y8, (ab_e0_44c24 h24).trans e, r⟩
  by_cases h25 : a = 25
  · obtain ⟨D', L', z', y6, y7, y8, e, r⟩ := bb_c25 (K := K) hn h i0 i5 hK (x6 := x6) (x7 := x7) (x8 := x8)
    exact ⟨D', L', z', y6, y7, y8, (ab_e0_44c25 h25).trans e, r⟩
  by_cases h26 : a = 26
  · obtain ⟨D', L', z', y6, y7, y8, e, r⟩ := bb_c26 (K := K) hn h i0 i5 hK (x6 := x6) (x7 := x7) (x8 := x8)
    exact ⟨D', L', z', y6, y7, y8, (ab_e0_44c26 h26).trans e, r⟩
  by_cases h27 : a = 27
  · obtain ⟨D', L', z', y6, y7, y8, e, r⟩ := bb_c27 (K := K) hn h i0 i5 hK (x6 := x6) (x7 := x7) (x8 := x8)
    exact ⟨D', L', z', y6, y7, y8, (ab_e0_44c27 h27).trans e, r⟩
  by_cases h28 : a = 28
  · obtain ⟨D', L', z', y6, y7, y8, e, r⟩ := bb_c28 (K := K) hn h i0 i5 hK (x6 := x6) (x7 := x7) (x8 := x8)
    exact ⟨D', L', z', y6, y7, y8, (ab_e0_44c28 h28).trans e, r⟩
  by_cases h29 : a = 29
  · obtain ⟨D', L', z', y6, y7, y8, e, r⟩ := bb_c29 (K := K) hn h i0 i5 hK (x6 := x6) (x7 := x7) (x8 := x8)
    exact ⟨D', L', z', y6, y7, y8, (ab_e0_44c29 h29).trans e, r⟩
  by_cases h30 : a = 30
  · obtain ⟨D', L', z', y6, y7, y8, e, r⟩ := bb_c30 (K := K) hn h i0 i5 hK (x6 := x6) (x7 := x7) (x8 := x8)
    exact ⟨D', L', z', y6, y7, y8, (ab_e0_44c30 h30).trans e, r⟩
  by_cases h31 : a = 31
  · obtain ⟨D', L', z', y6, y7, y8, e, r⟩ := bb_c31 (K := K) hn h i0 i5 hK (x6 := x6) (x7 := x7) (x8 := x8)
    exact ⟨D', L', z', y6, y7, y8, (ab_e0_44c31 h31).trans e, r⟩
  by_cases h32 : a = 32
  · obtain ⟨D', L', z', y6, y7, y8, e, r⟩ := bb_c32 (K := K) hn h i0 i5 hK (x6 := x6) (x7 := x7) (x8 := x8)
    exact ⟨D', L', z', y6, y7, y8, (ab_e0_44c32 h32).trans e, r⟩
  by_cases h33 : a = 33
  · obtain ⟨D', L', z', y6, y7, y8, e, r⟩ := bb_c33 (K := K) hn h i0 i5 hK (x6 := x6) (x7 := x7) (x8 := x8)
    exact ⟨D', L', z', y6, y7, y8, (ab_e0_44c33 h33).trans e, r⟩
  by_cases h34 : a = 34
  · obtain ⟨D', L', z', y6, y7, y8, e, r⟩ := bb_c34 (K := K) hn h i0 i5 hK (x6 := x6) (x7 := x7) (x8 := x8)
    exact ⟨D', L', z', y6, y7, y8, (ab_e0_44c34 h34).trans e, r⟩
  by_cases h35 : a = 35
  · obtain ⟨D', L', z', y6, y7, y8, e, r⟩ := bb_c35 (K := K) hn h i0 i5 hK (x6 := x6) (x7 := x7) (x8 := x8)
    exact ⟨D', L', z', y6, y7, y8, (ab_e0_44c35 h35).trans e, r⟩
  by_cases h36 : a = 36
  · obtain ⟨D', L', z', y6, y7, y8, e, r⟩ := bb_c36 (K := K) hn h i0 i5 hK (x6 := x6) (x7 := x7) (x8 := x8)
    exact ⟨D', L', z', y6, y7, y8, (ab_e0_44c36 h36).trans e, r⟩
  by_cases h37 : a = 37
  · obtain ⟨D', L', z', y6, y7, y8, e, r⟩ := bb_c37 (K := K) hn h i0 i5 hK (x6 := x6) (x7 := x7) (x8 := x8)
    exact ⟨D', L', z', y6, y7, y8, (ab_e0_44c37 h37).trans e, r⟩
  by_cases h38 : a = 38
  · obtain ⟨D', L', z', y6, y7, y8, e, r⟩ := bb_c38 (K := K) hn h i0 i5 hK (x6 := x6) (x7 := x7) (x8 := x8)
    exact ⟨D', L', z', y6, y7, y8, (ab_e0_44c38 h38).trans e, r⟩
  by_cases h39 : a = 39
  · obtain ⟨D', L', z', y6, y7, y8, e, r⟩ := bb_c39 (K := K) hn h i0 i5 hK (x6 := x6) (x7 := x7) (x8 := x8)
    exact ⟨D', L', z', y6, y7, y8, (ab_e0_44c39 h39).trans e, r⟩
  by_cases h40 : a = 40
  · obtain ⟨D', L', z', y6, y7, y8, e, r⟩ := bb_c40 (K := K) hn h i0 i5 hK (x6 := x6) (x7 := x7) (x8 := x8)
    exact ⟨D', L', z', y6, y7, y8, (ab_e0_44c40 h40).trans e, r⟩
  · exact ⟨D, L, z, x6, x7, x8, ab_e0_44d ha (by omega), bb_INV_q hn h (fun _ _ _ => rfl) (fun _ _ => rfl) (fun _ _ => rfl) (.inl rfl), Nat.le_refl _, Nat.le_refl _⟩

theorem bb_loop {K : ab_Kt} (hK : (K.1 : Int) ≤ 2560) (n : Int) (D : Nat → Int → Int) (L : Nat → Int → Int64) (z : ab_Z) (x6 x7 x8 : Option Value) (h : bb_INV n D L z) (hn : 5 * n ≤ (K.1 : Int)) : ∃ D' L' z' m, ab_ev K 0 28 [some (.ref 0), some (.ref 17), some (.ref 500), some (.ref 508), some (.ref 509), some (.int (ab_I (5 * n))), x6, x7, x8] [] (ab_mk D L z) = some (.inl (some (.int (ab_I 1))), ab_mk D' L' z') ∧ bb_INV m D' L' z' := by
  have n0 := h.1.1
  have k0 : 0 ≤ (K.1 : Int) := by omega
  by_cases hx : (K.1 : Int) - 5 < 5 * n
  · refine ⟨D, L, z, n, ?_, h⟩
    simp (discharger := first | assumption | exact True.intro | exact not_false | (refine ab_gK ?_; with_unfolding_all rfl) | exact ab_rgI (by omega) (by omega) | omega) only [ab_e0_28, ab_e0_30, ab_e0_31, ab_e0_32, ab_e0_33, ab_e0_34, ab_e0_2676, ab_e0_2677, ab_br_t, ab_br_f, ab_re_v (ab_zz _), ab_re_n (ab_zz _)]
  · have i0 : 0 ≤ 5 * n := by omega
    obtain ⟨D1, L1, z1, y6, y7, y8, e, hI, hz1, hz2⟩ := bb_step (K := K) (by omega) h i0 (by omega) (by omega) (a := bb_t6 (bb_K K (5 * n))) (ab_rgI (Int32.le_toInt _) (Int32.toInt_lt _)) (x6 := x6) (x7 := x7) (x8 := x8)
    obtain ⟨D2, L2, z2, m, i1, i2⟩ := bb_loop hK (n + 1) D1 L1 z1 y6 y7 y8 hI (by omega)
    refine ⟨D2, L2, z2, m, ?_, i2⟩
    rw [← i1, show 5 * (n + 1) = 5 * n + 5 by omega]
    have e9 : ab_ev K 0 28 [some (.ref 0), some (.ref 17), some (.ref 500), some (.ref 508), some (.ref 509), some (.int (ab_I (5 * n))), x6, x7, x8] [] (ab_mk D L z) = ab_ev K 0 44 [some (.ref 0), some (.ref 17), some (.ref 500), some (.ref 508), some (.ref 509), some (.int (ab_I (5 * n))), x6, x7, x8] [.int (ab_I (bb_t6 (bb_K K (5 * n))))] (ab_mk D L z) := by
      simp (discharger := first | assumption | exact True.intro | exact not_false | (refine ab_gK ?_; with_unfolding_all rfl) | exact ab_rgI (by omega) (by omega) | omega) only [ab_e0_28, ab_e0_30, ab_e0_31, ab_e0_32, ab_e0_33, ab_e0_34, ab_e0_37, ab_e0_38, ab_e0_40, ab_e0_41, ab_e0_43, ab_br_t, ab_br_f, ab_re_v (ab_zz _), ab_re_n (ab_zz _)]
    rw [e9, e, ab_e0_2670 (by with_unfolding_all rfl), ab_e0_2673]
termination_by ((K.1 : Int) - 5 * n).toNat
decreasing_by all_goals omega
