/-! ===== the calls of the law, one by one ===== -/
def bb_OPb (K : ab_Kt) (n : Int) (D : Nat → Int → Int) (L : Nat → Int → Int64) (z : ab_Z) (H : Nat) (as : List Value) (M : Nat) (as' : List Value) : Prop :=
  ∃ D1 L1 z1 D' k b, ab_cal K H as (ab_mk D L z) = some (.inl (some (.int (ab_I k))), ab_mk D1 L1 z1) ∧ ab_cal K M as' (ab_mk D1 L1 z1) = some (.inl (some (.int (ab_I b))), ab_mk D' L1 z1) ∧ (0 ≤ k ∧ k ≤ 2) ∧ D' 500 7 = k ∧ (k = 0 → L1 508 0 = (ab_I b).toInt64) ∧ bb_INV (n + 1) D' L1 z1 ∧ z.2.2.2.2.2.1 ≤ z1.2.2.2.2.2.1 ∧ z.2.2.2.2.2.2 ≤ z1.2.2.2.2.2.2 ∧ (b = 0 ∨ b = 1)
theorem bb_op36b {K : ab_Kt} {D : Nat → Int → Int} {L : Nat → Int → Int64} {z : ab_Z} {n : Int} (hn : n < 512) (h : bb_INV n D L z) {b p : Int} (hb9r : ab_rg b) (hp9r : ab_rg p) : bb_OPb K n D L z 36 [.ref 17, .int (ab_I b), .int (ab_I p), .ref 508] 37 [.ref 500, .int (ab_I b), .int (ab_I p)] := by
  have hI := h
  obtain ⟨n1, ⟨hw, w2, w3⟩, hS9, hR9, h69, hT9, hL9, -⟩ := hI
  have n9 : 0 ≤ n ∧ n < 512 := ⟨n1.1, hn⟩
  have cm := bb_cc_mono n9
  have hsp := ab_sp0
  have hk := w2.1
  have m := bb_WS_n hw
  obtain ⟨⟨q2, q3, q4, q5, q6, q7, q8, q9⟩, kp, ka, kb, kn⟩ := id hk
  have hwE : bb_WS (bb_cc n) (bb_E D 501) := by rw [bb_E_501]; exact hw
  by_cases hxy : (0 ≤ b ∧ b < D 501 3) ∧ 0 ≤ p ∧ p < ab_rall (D 501) b
  · have hx := hxy.1
    have hy := hxy.2
    have b0 := hx.1
    have b1 := hx.2
    have b6 : b < 6 := by omega
    have hbk := ab_bk_bI hsp b0 b6
    have kk := kb b b0 b1
    have hb9 := bb_WS_W hw b0 b1
    have hn9 := bb_WB_n hb9
    have hIB := bb_KS_IB hw hk b0 b1
    have hI := bb_WS_IR hw b0 b1
    have hIE : ab_IR (bb_E D 501) b := by rw [bb_E_501]; exact hI
    have b1E : b < bb_E D 501 3 := by rw [bb_E_501]; exact b1
    have hal := ab_rall_rg hI
    have hwr := ab_rwrong_rg hI
    have hmi := ab_rmiss_rg hI
    obtain ⟨⟨f0, f1, f2, f3, f4, f6⟩, f7, f5, -, -⟩ := id kk
    have fd := bb_nd_rg hb9 m.2.2.1.1
    have p192 : p < 192 := by omega
    have hs : bb_sl (bb_E D 501) b p = bb_sl (D 501) b p := by rw [bb_E_501]
    rcases bb_sl_rg (D 501) b p with h0 | h0
    · skip
      refine ⟨D, ab_u L 508 0 (ab_I (0)).toInt64, z, bb_E D, 0, 0, ?_, ?_, by omega, ab_u_eq, fun _ => ab_u_eq, bb_INV_q hn h (fun i _ e => ab_u_row e) (fun k e => ab_u_ne (.inr e)) (fun i e => ab_u_row e) (.inl rfl), Nat.le_refl _, Nat.le_refl _, by omega⟩
      · simp (discharger := first | assumption | exact True.intro | exact not_false | (refine ab_gK ?_; with_unfolding_all rfl) | exact ab_rgI (by omega) (by omega) | omega) only [ab_a36, ab_a128, bb_y204 hw hk hb9r hp9r hx hy, bb_y205 hbk hy.1 p192, bb_v_cs kk hy.1 p192, h0, ab_e36_0, ab_e36_1, ab_e36_2, ab_e36_3, ab_e36_4, ab_e36_5, ab_e36_8, ab_e36_11, ab_e36_12, ab_e36_15, ab_e36_16, ab_e36_17, ab_e36_20, ab_e36_22, ab_e36_23, ab_e36_24, ab_e36_25, ab_e128_0, ab_e128_1, ab_e128_2, ab_e128_3, ab_e128_6, ab_e128_7, ab_e128_10, ab_br_t, ab_br_f, ab_re_v (ab_zz _), ab_re_n (ab_zz _)]
        rfl
      · simp (discharger := first | assumption | exact True.intro | exact not_false | (refine ab_gK ?_; with_unfolding_all rfl) | exact ab_rgI (by omega) (by omega) | omega) only [ab_a37, bb_y129 hw hb9r hp9r, if_pos hxy, bb_y92_0, bb_y130 (D := bb_E D) hwE b0 b1E hy.1 p192, hs, h0, ab_e37_0, ab_e37_1, ab_e37_2, ab_e37_3, ab_e37_4, ab_e37_7, ab_e37_10, ab_e37_11, ab_e37_14, ab_e37_15, ab_e37_18, ab_e37_21, ab_e37_22, ab_e37_23, ab_e37_24, ab_e37_27, ab_e37_30, ab_e37_31, ab_e37_34, ab_e37_35, ab_br_t, ab_br_f, ab_re_v (ab_zz _), ab_re_n (ab_zz _)]
    · skip
      refine ⟨D, ab_u L 508 0 (ab_I (1)).toInt64, z, bb_E D, 0, 1, ?_, ?_, by omega, ab_u_eq, fun _ => ab_u_eq, bb_INV_q hn h (fun i _ e => ab_u_row e) (fun k e => ab_u_ne (.inr e)) (fun i e => ab_u_row e) (.inl rfl), Nat.le_refl _, Nat.le_refl _, by omega⟩
      · simp (discharger := first | assumption | exact True.intro | exact not_false | (refine ab_gK ?_; with_unfolding_all rfl) | exact ab_rgI (by omega) (by omega) | omega) only [ab_a36, ab_a128, bb_y204 hw hk hb9r hp9r hx hy, bb_y205 hbk hy.1 p192, bb_v_cs kk hy.1 p192, h0, ab_e36_0, ab_e36_1, ab_e36_2, ab_e36_3, ab_e36_4, ab_e36_5, ab_e36_8, ab_e36_11, ab_e36_12, ab_e36_15, ab_e36_16, ab_e36_17, ab_e36_20, ab_e36_22, ab_e36_23, ab_e36_24, ab_e36_25, ab_e128_0, ab_e128_1, ab_e128_2, ab_e128_3, ab_e128_6, ab_e128_7, ab_e128_10, ab_br_t, ab_br_f, ab_re_v (ab_zz _), ab_re_n (ab_zz _)]
        rfl
      · simp (discharger := first | assumption | exact True.intro | exact not_false | (refine ab_gK ?_; with_unfolding_all rfl) | exact ab_rgI (by omega) (by omega) | omega) only [ab_a37, bb_y129 hw hb9r hp9r, if_pos hxy, bb_y92_0, bb_y130 (D := bb_E D) hwE b0 b1E hy.1 p192, hs, h0, ab_e37_0, ab_e37_1, ab_e37_2, ab_e37_3, ab_e37_4, ab_e37_7, ab_e37_10, ab_e37_11, ab_e37_14, ab_e37_15, ab_e37_18, ab_e37_21, ab_e37_22, ab_e37_23, ab_e37_24, ab_e37_27, ab_e37_30, ab_e37_31, ab_e37_34, ab_e37_35, ab_br_t, ab_br_f, ab_re_v (ab_zz _), ab_re_n (ab_zz _)]
  · skip
    refine ⟨D, L, ab_zc (ab_zx z), ab_u D 500 7 1, 1, 0, ?_, ?_, by omega, ab_u_eq, fun x => absurd x (by omega), bb_INV_q hn h (fun i _ e => ab_u_row e) (fun k e => ab_u_ne (.inr e)) (fun i _ => rfl) (.inr rfl), Nat.le_succ _, Nat.le_add_right _ 6, by omega⟩
    · simp (discharger := first | assumption | exact True.intro | exact not_false | (refine ab_gK ?_; with_unfolding_all rfl) | exact ab_rgI (by omega) (by omega) | omega) only [ab_a36, ab_a128, bb_y204t hw hk hb9r hp9r hxy, ab_re_t (M := 128) (pc := 3) (E := "java/lang/IndexOutOfBoundsException") (by rfl) (ab_zzx _), ab_re_h (M := 36) (pc := 5) (E := "java/lang/IndexOutOfBoundsException") (ph := 20) (by rfl) (ab_zzx _), ab_e36_0, ab_e36_1, ab_e36_2, ab_e36_3, ab_e36_4, ab_e36_5, ab_e36_8, ab_e36_11, ab_e36_12, ab_e36_15, ab_e36_16, ab_e36_17, ab_e36_20, ab_e36_22, ab_e36_23, ab_e36_24, ab_e36_25, ab_e128_0, ab_e128_1, ab_e128_2, ab_e128_3, ab_e128_6, ab_e128_7, ab_e128_10, ab_br_t, ab_br_f, ab_re_v (ab_zz _), ab_re_n (ab_zz _)]
    · simp (discharger := first | assumption | exact True.intro | exact not_false | (refine ab_gK ?_; with_unfolding_all rfl) | exact ab_rgI (by omega) (by omega) | omega) only [ab_a37, bb_y129 hw hb9r hp9r, if_neg hxy, bb_y92_1, ab_e37_0, ab_e37_1, ab_e37_2, ab_e37_3, ab_e37_4, ab_e37_7, ab_e37_10, ab_e37_11, ab_e37_14, ab_e37_15, ab_e37_18, ab_e37_21, ab_e37_22, ab_e37_23, ab_e37_24, ab_e37_27, ab_e37_30, ab_e37_31, ab_e37_34, ab_e37_35, ab_br_t, ab_br_f, ab_re_v (ab_zz _), ab_re_n (ab_zz _)]

theorem bb_y5 {K : ab_Kt} {D : Nat → Int → Int} {L : Nat → Int → Int64} {z : ab_Z} : ab_cal K 5 [.ref 500] (ab_mk D L z) = some (.inl (some (.int (ab_I (D 500 7)))), (ab_mk D L z)) := by
  simp (discharger := first | assumption | exact True.intro | exact not_false | (refine ab_gK ?_; with_unfolding_all rfl) | exact ab_rgI (by omega) (by omega) | omega) only [ab_a5, ab_e5_0, ab_e5_1, ab_e5_4, ab_br_t, ab_br_f, ab_re_v (ab_zz _), ab_re_n (ab_zz _)]

/-- from pc on the law makes one call, and the books agree behind it -/
def bb_LW (K : ab_Kt) (n i : Int) (D : Nat → Int → Int) (L : Nat → Int → Int64) (z : ab_Z) (pc : Nat) (x6 x7 x8 : Option Value) : Prop :=
  ∃ D' L' z' y6 y7 y8, ab_ev K 0 pc [some (.ref 0), some (.ref 17), some (.ref 500), some (.ref 508), some (.ref 509), some (.int (ab_I i)), x6, x7, x8] [] (ab_mk D L z) = ab_ev K 0 2670 [some (.ref 0), some (.ref 17), some (.ref 500), some (.ref 508), some (.ref 509), some (.int (ab_I i)), y6, y7, y8] [] (ab_mk D' L' z') ∧ bb_INV (n + 1) D' L' z' ∧ z.2.2.2.2.2.1 ≤ z'.2.2.2.2.2.1 ∧ z.2.2.2.2.2.2 ≤ z'.2.2.2.2.2.2
theorem bb_t01 (K : ab_Kt) (i : Int) : (if bb_K K (i + 4) = 0 then (0 : Int) else 1) = 0 ∨ (if bb_K K (i + 4) = 0 then (0 : Int) else 1) = 1 := by by_cases h : bb_K K (i + 4) = 0 <;> simp [h]
theorem bb_c0 {K : ab_Kt} {D : Nat → Int → Int} {L : Nat → Int → Int64} {z : ab_Z} {n i : Int} (hn : n < 512) (h : bb_INV n D L z) (i0 : 0 ≤ i) (i5 : i + 5 ≤ (K.1 : Int)) (hK : (K.1 : Int) ≤ 3000) {x6 x7 x8 : Option Value} : bb_LW K n i D L z 224 x6 x7 x8 := by
  have s1 := bb_K_rg K (i + 1)
  have s2 := bb_K_rg K (i + 2)
  obtain ⟨D1, L1, z1, D', k, b, e1, e2, k2, e7, eL, hI, hz1, hz2⟩ := bb_op84 (K := K) hn h (bb_K_rg K (i + 1)) (bb_K_rg K (i + 2))
  have e5 := bb_y5 (K := K) (D := D') (L := L1) (z := z1)
  rw [e7] at e5
  have hzz : z.2.2.2.2.2.1 ≤ z1.2.2.2.2.2.1 ∧ z.2.2.2.2.2.2 ≤ z1.2.2.2.2.2.2 := ⟨hz1, hz2⟩
  by_cases hk : k = 0
  · have eL' := eL hk
    subst hk
    refine ⟨D', L1, z1, some (.int (ab_I 0)), some (.int (ab_I b)), x8, ?_, hI, hz1, hz2⟩
    simp (discharger := first | assumption | exact True.intro | exact not_false | (refine ab_gK ?_; with_unfolding_all rfl) | exact ab_rgI (by omega) (by omega) | omega) only [e1, e2, ab_re_v hzz, e5, eL', bb_lg_self, ab_e0_224, ab_e0_225, ab_e0_226, ab_e0_228, ab_e0_229, ab_e0_230, ab_e0_231, ab_e0_232, ab_e0_234, ab_e0_235, ab_e0_236, ab_e0_237, ab_e0_238, ab_e0_241, ab_e0_243, ab_e0_244, ab_e0_245, ab_e0_247, ab_e0_248, ab_e0_249, ab_e0_250, ab_e0_251, ab_e0_253, ab_e0_254, ab_e0_255, ab_e0_256, ab_e0_259, ab_e0_261, ab_e0_262, ab_e0_265, ab_e0_267, ab_e0_270, ab_e0_271, ab_e0_272, ab_e0_274, ab_e0_277, ab_e0_278, ab_e0_279, ab_e0_280, ab_e0_282, ab_e0_283, ab_e0_284, ab_e0_287, ab_e0_288, ab_e0_289, ab_br_t, ab_br_f, ab_re_v (ab_zz _), ab_re_n (ab_zz _)]
  · refine ⟨D', L1, z1, some (.int (ab_I k)), some (.int (ab_I b)), x8, ?_, hI, hz1, hz2⟩
    simp (discharger := first | assumption | exact True.intro | exact not_false | (refine ab_gK ?_; with_unfolding_all rfl) | exact ab_rgI (by omega) (by omega) | omega) only [e1, e2, ab_re_v hzz, e5, ab_e0_224, ab_e0_225, ab_e0_226, ab_e0_228, ab_e0_229, ab_e0_230, ab_e0_231, ab_e0_232, ab_e0_234, ab_e0_235, ab_e0_236, ab_e0_237, ab_e0_238, ab_e0_241, ab_e0_243, ab_e0_244, ab_e0_245, ab_e0_247, ab_e0_248, ab_e0_249, ab_e0_250, ab_e0_251, ab_e0_253, ab_e0_254, ab_e0_255, ab_e0_256, ab_e0_259, ab_e0_261, ab_e0_262, ab_e0_265, ab_e0_267, ab_e0_270, ab_e0_271, ab_e0_272, ab_e0_274, ab_e0_277, ab_e0_278, ab_e0_279, ab_e0_280, ab_e0_282, ab_e0_283, ab_e0_284, ab_e0_287, ab_e0_288, ab_e0_289, ab_br_t, ab_br_f, ab_re_v (ab_zz _), ab_re_n (ab_zz _)]

theorem bb_c1 {K : ab_Kt} {D : Nat → Int → Int} {L : Nat → Int → Int64} {z : ab_Z} {n i : Int} (hn : n < 512) (h : bb_INV n D L z) (i0 : 0 ≤ i) (i5 : i + 5 ≤ (K.1 : Int)) (hK : (K.1 : Int) ≤ 3000) {x6 x7 x8 : Option Value} : bb_LW K n i D L z 292 x6 x7 x8 := by
  have s1 := bb_K_rg K (i + 1)
  have s2 := bb_K_rg K (i + 2)
  have s3 := bb_K_rg K (i + 3)
  have s4 := bb_K_rg K (i + 4)
  by_cases h4 : bb_K K (i + 4) = 0
  · skip
    obtain ⟨D1, L1, z1, D', k, b, e1, e2, k2, e7, eL, hI, hz1, hz2⟩ := bb_op82 (K := K) (t := 0) hn h (bb_K_rg K (i + 1)) (bb_K_rg K (i + 2)) (bb_K_rg K (i + 3)) (.inl rfl)
    have e5 := bb_y5 (K := K) (D := D') (L := L1) (z := z1)
    rw [e7] at e5
    have hzz : z.2.2.2.2.2.1 ≤ z1.2.2.2.2.2.1 ∧ z.2.2.2.2.2.2 ≤ z1.2.2.2.2.2.2 := ⟨hz1, hz2⟩
    by_cases hk : k = 0
    · have eL' := eL hk
      subst hk
      refine ⟨D', L1, z1, some (.int (ab_I 0)), some (.int (ab_I b)), x8, ?_, hI, hz1, hz2⟩
      simp (discharger := first | assumption | exact True.intro | exact not_false | (refine ab_gK ?_; with_unfolding_all rfl) | exact ab_rgI (by omega) (by omega) | omega) only [e1, e2, ab_re_v hzz, e5, eL', bb_lg_self, ab_e0_292, ab_e0_293, ab_e0_294, ab_e0_296, ab_e0_297, ab_e0_298, ab_e0_299, ab_e0_300, ab_e0_302, ab_e0_303, ab_e0_304, ab_e0_305, ab_e0_306, ab_e0_308, ab_e0_309, ab_e0_310, ab_e0_311, ab_e0_312, ab_e0_314, ab_e0_315, ab_e0_316, ab_e0_317, ab_e0_320, ab_e0_321, ab_e0_324, ab_e0_325, ab_e0_326, ab_e0_329, ab_e0_331, ab_e0_332, ab_e0_333, ab_e0_335, ab_e0_336, ab_e0_337, ab_e0_338, ab_e0_339, ab_e0_341, ab_e0_342, ab_e0_343, ab_e0_344, ab_e0_345, ab_e0_347, ab_e0_348, ab_e0_349, ab_e0_350, ab_e0_351, ab_e0_353, ab_e0_354, ab_e0_355, ab_e0_356, ab_e0_359, ab_e0_360, ab_e0_363, ab_e0_364, ab_e0_367, ab_e0_369, ab_e0_370, ab_e0_373, ab_e0_375, ab_e0_378, ab_e0_379, ab_e0_380, ab_e0_382, ab_e0_385, ab_e0_386, ab_e0_387, ab_e0_388, ab_e0_390, ab_e0_391, ab_e0_392, ab_e0_395, ab_e0_396, ab_e0_397, ab_br_t, ab_br_f, ab_re_v (ab_zz _), ab_re_n (ab_zz _)]
    · refine ⟨D', L1, z1, some (.int (ab_I k)), some (.int (ab_I b)), x8, ?_, hI, hz1, hz2⟩
      simp (discharger := first | assumption | exact True.intro | exact not_false | (refine ab_gK ?_; with_unfolding_all rfl) | exact ab_rgI (by omega) (by omega) | omega) only [e1, e2, ab_re_v hzz, e5, ab_e0_292, ab_e0_293, ab_e0_294, ab_e0_296, ab_e0_297, ab_e0_298, ab_e0_299, ab_e0_300, ab_e0_302, ab_e0_303, ab_e0_304, ab_e0_305, ab_e0_306, ab_e0_308, ab_e0_309, ab_e0_310, ab_e0_311, ab_e0_312, ab_e0_314, ab_e0_315, ab_e0_316, ab_e0_317, ab_e0_320, ab_e0_321, ab_e0_324, ab_e0_325, ab_e0_326, ab_e0_329, ab_e0_331, ab_e0_332, ab_e0_333, ab_e0_335, ab_e0_336, ab_e0_337, ab_e0_338, ab_e0_339, ab_e0_341, ab_e0_342, ab_e0_343, ab_e0_344, ab_e0_345, ab_e0_347, ab_e0_348, ab_e0_349, ab_e0_350, ab_e0_351, ab_e0_353, ab_e0_354, ab_e0_355, ab_e0_356, ab_e0_359, ab_e0_360, ab_e0_363, ab_e0_364, ab_e0_367, ab_e0_369, ab_e0_370, ab_e0_373, ab_e0_375, ab_e0_378, ab_e0_379, ab_e0_380, ab_e0_382, ab_e0_385, ab_e0_386, ab_e0_387, ab_e0_388, ab_e0_390, ab_e0_391, ab_e0_392, ab_e0_395, ab_e0_396, ab_e0_397, ab_br_t, ab_br_f, ab_re_v (ab_zz _), ab_re_n (ab_zz _)]
  · skip
    obtain ⟨D1, L1, z1, D', k, b, e1, e2, k2, e7, eL, hI, hz1, hz2⟩ := bb_op82 (K := K) (t := 1) hn h (bb_K_rg K (i + 1)) (bb_K_rg K (i + 2)) (bb_K_rg K (i + 3)) (.inr rfl)
    have e5 := bb_y5 (K := K) (D := D') (L := L1) (z := z1)
    rw [e7] at e5
    have hzz : z.2.2.2.2.2.1 ≤ z1.2.2.2.2.2.1 ∧ z.2.2.2.2.2.2 ≤ z1.2.2.2.2.2.2 := ⟨hz1, hz2⟩
    by_cases hk : k = 0
    · have eL' := eL hk
      subst hk
      refine ⟨D', L1, z1, some (.int (ab_I 0)), some (.int (ab_I b)), x8, ?_, hI, hz1, hz2⟩
      simp (discharger := first | assumption | exact True.intro | exact not_false | (refine ab_gK ?_; with_unfolding_all rfl) | exact ab_rgI (by omega) (by omega) | omega) only [e1, e2, ab_re_v hzz, e5, eL', bb_lg_self, ab_e0_292, ab_e0_293, ab_e0_294, ab_e0_296, ab_e0_297, ab_e0_298, ab_e0_299, ab_e0_300, ab_e0_302, ab_e0_303, ab_e0_304, ab_e0_305, ab_e0_306, ab_e0_308, ab_e0_309, ab_e0_310, ab_e0_311, ab_e0_312, ab_e0_314, ab_e0_315, ab_e0_316, ab_e0_317, ab_e0_320, ab_e0_321, ab_e0_324, ab_e0_325, ab_e0_326, ab_e0_329, ab_e0_331, ab_e0_332, ab_e0_333, ab_e0_335, ab_e0_336, ab_e0_337, ab_e0_338, ab_e0_339, ab_e0_341, ab_e0_342, ab_e0_343, ab_e0_344, ab_e0_345, ab_e0_347, ab_e0_348, ab_e0_349, ab_e0_350, ab_e0_351, ab_e0_353, ab_e0_354, ab_e0_355, ab_e0_356, ab_e0_359, ab_e0_360, ab_e0_363, ab_e0_364, ab_e0_367, ab_e0_369, ab_e0_370, ab_e0_373, ab_e0_375, ab_e0_378, ab_e0_379, ab_e0_380, ab_e0_382, ab_e0_385, ab_e0_386, ab_e0_387, ab_e0_388, ab_e0_390, ab_e0_391, ab_e0_392, ab_e0_395, ab_e0_396, ab_e0_397, ab_br_t, ab_br_f, ab_re_v (ab_zz _), ab_re_n (ab_zz _)]
    · refine ⟨D', L1, z1, some (.int (ab_I k)), some (.int (ab_I b)), x8, ?_, hI, hz1, hz2⟩
      simp (discharger := first | assumption | exact True.intro | exact not_false | (refine ab_gK ?_; with_unfolding_all rfl) | exact ab_rgI (by omega) (by omega) | omega) only [e1, e2, ab_re_v hzz, e5, ab_e0_292, ab_e0_293, ab_e0_294, ab_e0_296, ab_e0_297, ab_e0_298, ab_e0_299, ab_e0_300, ab_e0_302, ab_e0_303, ab_e0_304, ab_e0_305, ab_e0_306, ab_e0_308, ab_e0_309, ab_e0_310, ab_e0_311, ab_e0_312, ab_e0_314, ab_e0_315, ab_e0_316, ab_e0_317, ab_e0_320, ab_e0_321, ab_e0_324, ab_e0_325, ab_e0_326, ab_e0_329, ab_e0_331, ab_e0_332, ab_e0_333, ab_e0_335, ab_e0_336, ab_e0_337, ab_e0_338, ab_e0_339, ab_e0_341, ab_e0_342, ab_e0_343, ab_e0_344, ab_e0_345, ab_e0_347, ab_e0_348, ab_e0_349, ab_e0_350, ab_e0_351, ab_e0_353, ab_e0_354, ab_e0_355, ab_e0_356, ab_e0_359, ab_e0_360, ab_e0_363, ab_e0_364, ab_e0_367, ab_e0_369, ab_e0_370, ab_e0_373, ab_e0_375, ab_e0_378, ab_e0_379, ab_e0_380, ab_e0_382, ab_e0_385, ab_e0_386, ab_e0_387, ab_e0_388, ab_e0_390, ab_e0_391, ab_e0_392, ab_e0_395, ab_e0_396, ab_e0_397, ab_br_t, ab_br_f, ab_re_v (ab_zz _), ab_re_n (ab_zz _)]

theorem bb_c2 {K : ab_Kt} {D : Nat → Int → Int} {L : Nat → Int → Int64} {z : ab_Z} {n i : Int} (hn : n < 512) (h : bb_INV n D L z) (i0 : 0 ≤ i) (i5 : i + 5 ≤ (K.1 : Int)) (hK : (K.1 : Int) ≤ 3000) {x6 x7 x8 : Option Value} : bb_LW K n i D L z 400 x6 x7 x8 := by
  have s1 := bb_K_rg K (i + 1)
  have s2 := bb_K_rg K (i + 2)
  have s3 := bb_K_rg K (i + 3)
  obtain ⟨D1, L1, z1, D', k, b, e1, e2, k2, e7, eL, hI, hz1, hz2⟩ := bb_op80 (K := K) hn h (bb_K_rg K (i + 1)) (bb_K_rg K (i + 2)) (bb_K_rg K (i + 3))
  have e5 := bb_y5 (K := K) (D := D') (L := L1) (z := z1)
  rw [e7] at e5
  have hzz : z.2.2.2.2.2.1 ≤ z1.2.2.2.2.2.1 ∧ z.2.2.2.2.2.2 ≤ z1.2.2.2.2.2.2 := ⟨hz1, hz2⟩
  by_cases hk : k = 0
  · have eL' := eL hk
    subst hk
    refine ⟨D', L1, z1, some (.int (ab_I 0)), some (.int (ab_I b)), x8, ?_, hI, hz1, hz2⟩
    simp (discharger := first | assumption | exact True.intro | exact not_false | (refine ab_gK ?_; with_unfolding_all rfl) | exact ab_rgI (by omega) (by omega) | omega) only [e1, e2, ab_re_v hzz, e5, eL', bb_lg_self, ab_e0_400, ab_e0_401, ab_e0_402, ab_e0_404, ab_e0_405, ab_e0_406, ab_e0_407, ab_e0_408, ab_e0_410, ab_e0_411, ab_e0_412, ab_e0_413, ab_e0_414, ab_e0_416, ab_e0_417, ab_e0_418, ab_e0_419, ab_e0_420, ab_e0_423, ab_e0_425, ab_e0_426, ab_e0_427, ab_e0_429, ab_e0_430, ab_e0_431, ab_e0_432, ab_e0_433, ab_e0_435, ab_e0_436, ab_e0_437, ab_e0_438, ab_e0_439, ab_e0_441, ab_e0_442, ab_e0_443, ab_e0_444, ab_e0_447, ab_e0_449, ab_e0_450, ab_e0_453, ab_e0_455, ab_e0_458, ab_e0_459, ab_e0_460, ab_e0_462, ab_e0_465, ab_e0_466, ab_e0_467, ab_e0_468, ab_e0_470, ab_e0_471, ab_e0_472, ab_e0_475, ab_e0_476, ab_e0_477, ab_br_t, ab_br_f, ab_re_v (ab_zz _), ab_re_n (ab_zz _)]
  · refine ⟨D', L1, z1, some (.int (ab_I k)), some (.int (ab_I b)), x8, ?_, hI, hz1, hz2⟩
    simp (discharger := first | assumption | exact True.intro | exact not_false | (refine ab_gK ?_; with_unfolding_all rfl) | exact ab_rgI (by omega) (by omega) | omega) only [e1, e2, ab_re_v hzz, e5, ab_e0_400, ab_e0_401, ab_e0_402, ab_e0_404, ab_e0_405, ab_e0_406, ab_e0_407, ab_e0_408, ab_e0_410, ab_e0_411, ab_e0_412, ab_e0_413, ab_e0_414, ab_e0_416, ab_e0_417, ab_e0_418, ab_e0_419, ab_e0_420, ab_e0_423, ab_e0_425, ab_e0_426, ab_e0_427, ab_e0_429, ab_e0_430, ab_e0_431, ab_e0_432, ab_e0_433, ab_e0_435, ab_e0_436, ab_e0_437, ab_e0_438, ab_e0_439, ab_e0_441, ab_e0_442, ab_e0_443, ab_e0_444, ab_e0_447, ab_e0_449, ab_e0_450, ab_e0_453, ab_e0_455, ab_e0_458, ab_e0_459, ab_e0_460, ab_e0_462, ab_e0_465, ab_e0_466, ab_e0_467, ab_e0_468, ab_e0_470, ab_e0_471, ab_e0_472, ab_e0_475, ab_e0_476, ab_e0_477, ab_br_t, ab_br_f, ab_re_v (ab_zz _), ab_re_n (ab_zz _)]

theorem bb_c3 {K : ab_Kt} {D : Nat → Int → Int} {L : Nat → Int → Int64} {z : ab_Z} {n i : Int} (hn : n < 512) (h : bb_INV n D L z) (i0 : 0 ≤ i) (i5 : i + 5 ≤ (K.1 : Int)) (hK : (K.1 : Int) ≤ 3000) {x6 x7 x8 : Option Value} : bb_LW K n i D L z 480 x6 x7 x8 := by
  have s1 := bb_K_rg K (i + 1)
  have s2 := bb_K_rg K (i + 2)
  obtain ⟨D1, L1, z1, D', k, b, e1, e2, k2, e7, eL, hI, hz1, hz2⟩ := bb_op78 (K := K) hn h (bb_K_rg K (i + 1)) (bb_K_rg K (i + 2))
  have e5 := bb_y5 (K := K) (D := D') (L := L1) (z := z1)
  rw [e7] at e5
  have hzz : z.2.2.2.2.2.1 ≤ z1.2.2.2.2.2.1 ∧ z.2.2.2.2.2.2 ≤ z1.2.2.2.2.2.2 := ⟨hz1, hz2⟩
  by_cases hk : k = 0
  · have eL' := eL hk
    subst hk
    refine ⟨D', L1, z1, some (.int (ab_I 0)), some (.int (ab_I b)), x8, ?_, hI, hz1, hz2⟩
    simp (discharger := first | assumption | exact True.intro | exact not_false | (refine ab_gK ?_; with_unfolding_all rfl) | exact ab_rgI (by omega) (by omega) | omega) only [e1, e2, ab_re_v hzz, e5, eL', bb_lg_self, ab_e0_480, ab_e0_481, ab_e0_482, ab_e0_484, ab_e0_485, ab_e0_486, ab_e0_487, ab_e0_488, ab_e0_490, ab_e0_491, ab_e0_492, ab_e0_493, ab_e0_494, ab_e0_497, ab_e0_499, ab_e0_500, ab_e0_501, ab_e0_503, ab_e0_504, ab_e0_505, ab_e0_506, ab_e0_507, ab_e0_509, ab_e0_510, ab_e0_511, ab_e0_512, ab_e0_515, ab_e0_517, ab_e0_518, ab_e0_521, ab_e0_523, ab_e0_526, ab_e0_527, ab_e0_528, ab_e0_530, ab_e0_533, ab_e0_534, ab_e0_535, ab_e0_536, ab_e0_538, ab_e0_539, ab_e0_540, ab_e0_543, ab_e0_544, ab_e0_545, ab_br_t, ab_br_f, ab_re_v (ab_zz _), ab_re_n (ab_zz _)]
  · refine ⟨D', L1, z1, some (.int (ab_I k)), some (.int (ab_I b)), x8, ?_, hI, hz1, hz2⟩
    simp (discharger := first | assumption | exact True.intro | exact not_false | (refine ab_gK ?_; with_unfolding_all rfl) | exact ab_rgI (by omega) (by omega) | omega) only [e1, e2, ab_re_v hzz, e5, ab_e0_480, ab_e0_481, ab_e0_482, ab_e0_484, ab_e0_485, ab_e0_486, ab_e0_487, ab_e0_488, ab_e0_490, ab_e0_491, ab_e0_492, ab_e0_493, ab_e0_494, ab_e0_497, ab_e0_499, ab_e0_500, ab_e0_501, ab_e0_503, ab_e0_504, ab_e0_505, ab_e0_506, ab_e0_507, ab_e0_509, ab_e0_510, ab_e0_511, ab_e0_512, ab_e0_515, ab_e0_517, ab_e0_518, ab_e0_521, ab_e0_523, ab_e0_526, ab_e0_527, ab_e0_528, ab_e0_530, ab_e0_533, ab_e0_534, ab_e0_535, ab_e0_536, ab_e0_538, ab_e0_539, ab_e0_540, ab_e0_543, ab_e0_544, ab_e0_545, ab_br_t, ab_br_f, ab_re_v (ab_zz _), ab_re_n (ab_zz _)]

theorem bb_c4 {K : ab_Kt} {D : Nat → Int → Int} {L : Nat → Int → Int64} {z : ab_Z} {n i : Int} (hn : n < 512) (h : bb_INV n D L z) (i0 : 0 ≤ i) (i5 : i + 5 ≤ (K.1 : Int)) (hK : (K.1 : Int) ≤ 3000) {x6 x7 x8 : Option Value} : bb_LW K n i D L z 548 x6 x7 x8 := by
  have s1 := bb_K_rg K (i + 1)
  obtain ⟨D1, L1, z1, D', k, b, e1, e2, k2, e7, eL, hI, hz1, hz2⟩ := bb_op76 (K := K) hn h (bb_K_rg K (i + 1))
  have e5 := bb_y5 (K := K) (D := D') (L := L1) (z := z1)
  rw [e7] at e5
  have hzz : z.2.2.2.2.2.1 ≤ z1.2.2.2.2.2.1 ∧ z.2.2.2.2.2.2 ≤ z1.2.2.2.2.2.2 := ⟨hz1, hz2⟩
  by_cases hk : k = 0
  · have eL' := eL hk
    subst hk
    refine ⟨D', L1, z1, some (.int (ab_I 0)), some (.int (ab_I b)), x8, ?_, hI, hz1, hz2⟩
    simp (discharger := first | assumption | exact True.intro | exact not_false | (refine ab_gK ?_; with_unfolding_all rfl) | exact ab_rgI (by omega) (by omega) | omega) only [e1, e2, ab_re_v hzz, e5, eL', bb_lg_self, ab_e0_548, ab_e0_549, ab_e0_550, ab_e0_552, ab_e0_553, ab_e0_554, ab_e0_555, ab_e0_556, ab_e0_559, ab_e0_561, ab_e0_562, ab_e0_563, ab_e0_565, ab_e0_566, ab_e0_567, ab_e0_568, ab_e0_571, ab_e0_573, ab_e0_574, ab_e0_577, ab_e0_579, ab_e0_582, ab_e0_583, ab_e0_584, ab_e0_586, ab_e0_589, ab_e0_590, ab_e0_591, ab_e0_592, ab_e0_594, ab_e0_595, ab_e0_596, ab_e0_599, ab_e0_600, ab_e0_601, ab_br_t, ab_br_f, ab_re_v (ab_zz _), ab_re_n (ab_zz _)]
  · refine ⟨D', L1, z1, some (.int (ab_I k)), some (.int (ab_I b)), x8, ?_, hI, hz1, hz2⟩
    simp (discharger := first | assumption | exact True.intro | exact not_false | (refine ab_gK ?_; with_unfolding_all rfl) | exact ab_rgI (by omega) (by omega) | omega) only [e1, e2, ab_re_v hzz, e5, ab_e0_548, ab_e0_549, ab_e0_550, ab_e0_552, ab_e0_553, ab_e0_554, ab_e0_555, ab_e0_556, ab_e0_559, ab_e0_561, ab_e0_562, ab_e0_563, ab_e0_565, ab_e0_566, ab_e0_567, ab_e0_568, ab_e0_571, ab_e0_573, ab_e0_574, ab_e0_577, ab_e0_579, ab_e0_582, ab_e0_583, ab_e0_584, ab_e0_586, ab_e0_589, ab_e0_590, ab_e0_591, ab_e0_592, ab_e0_594, ab_e0_595, ab_e0_596, ab_e0_599, ab_e0_600, ab_e0_601, ab_br_t, ab_br_f, ab_re_v (ab_zz _), ab_re_n (ab_zz _)]

theorem bb_c5 {K : ab_Kt} {D : Nat → Int → Int} {L : Nat → Int → Int64} {z : ab_Z} {n i : Int} (hn : n < 512) (h : bb_INV n D L z) (i0 : 0 ≤ i) (i5 : i + 5 ≤ (K.1 : Int)) (hK : (K.1 : Int) ≤ 3000) {x6 x7 x8 : Option Value} : bb_LW K n i D L z 604 x6 x7 x8 := by
  have s1 := bb_K_rg K (i + 1)
  obtain ⟨D1, L1, z1, D', k, b, e1, e2, k2, e7, eL, hI, hz1, hz2⟩ := bb_op74 (K := K) hn h (bb_K_rg K (i + 1))
  have e5 := bb_y5 (K := K) (D := D') (L := L1) (z := z1)
  rw [e7] at e5
  have hzz : z.2.2.2.2.2.1 ≤ z1.2.2.2.2.2.1 ∧ z.2.2.2.2.2.2 ≤ z1.2.2.2.2.2.2 := ⟨hz1, hz2⟩
  by_cases hk : k = 0
  · have eL' := eL hk
    subst hk
    refine ⟨D', L1, z1, some (.int (ab_I 0)), some (.int (ab_I b)), x8, ?_, hI, hz1, hz2⟩
    simp (discharger := first | assumption | exact True.intro | exact not_false | (refine ab_gK ?_; with_unfolding_all rfl) | exact ab_rgI (by omega) (by omega) | omega) only [e1, e2, ab_re_v hzz, e5, eL', bb_lg_self, ab_e0_604, ab_e0_605, ab_e0_606, ab_e0_608, ab_e0_609, ab_e0_610, ab_e0_611, ab_e0_612, ab_e0_615, ab_e0_617, ab_e0_618, ab_e0_619, ab_e0_621, ab_e0_622, ab_e0_623, ab_e0_624, ab_e0_627, ab_e0_629, ab_e0_630, ab_e0_633, ab_e0_635, ab_e0_638, ab_e0_639, ab_e0_640, ab_e0_642, ab_e0_645, ab_e0_646, ab_e0_647, ab_e0_648, ab_e0_650, ab_e0_651, ab_e0_652, ab_e0_655, ab_e0_656, ab_e0_657, ab_br_t, ab_br_f, ab_re_v (ab_zz _), ab_re_n (ab_zz _)]
  · refine ⟨D', L1, z1, some (.int (ab_I k)), some (.int (ab_I b)), x8, ?_, hI, hz1, hz2⟩
    simp (discharger := first | assumption | exact True.intro | exact not_false | (refine ab_gK ?_; with_unfolding_all rfl) | exact ab_rgI (by omega) (by omega) | omega) only [e1, e2, ab_re_v hzz, e5, ab_e0_604, ab_e0_605, ab_e0_606, ab_e0_608, ab_e0_609, ab_e0_610, ab_e0_611, ab_e0_612, ab_e0_615, ab_e0_617, ab_e0_618, ab_e0_619, ab_e0_621, ab_e0_622, ab_e0_623, ab_e0_624, ab_e0_627, ab_e0_629, ab_e0_630, ab_e0_633, ab_e0_635, ab_e0_638, ab_e0_639, ab_e0_640, ab_e0_642, ab_e0_645, ab_e0_646, ab_e0_647, ab_e0_648, ab_e0_650, ab_e0_651, ab_e0_652, ab_e0_655, ab_e0_656, ab_e0_657, ab_br_t, ab_br_f, ab_re_v (ab_zz _), ab_re_n (ab_zz _)]

theorem bb_c6 {K : ab_Kt} {D : Nat → Int → Int} {L : Nat → Int → Int64} {z : ab_Z} {n i : Int} (hn : n < 512) (h : bb_INV n D L z) (i0 : 0 ≤ i) (i5 : i + 5 ≤ (K.1 : Int)) (hK : (K.1 : Int) ≤ 3000) {x6 x7 x8 : Option Value} : bb_LW K n i D L z 660 x6 x7 x8 := by
  have s1 := bb_K_rg K (i + 1)
  obtain ⟨D1, L1, z1, D', k, b, e1, e2, k2, e7, eL, hI, hz1, hz2⟩ := bb_op72 (K := K) hn h (bb_K_rg K (i + 1))
  have e5 := bb_y5 (K := K) (D := D') (L := L1) (z := z1)
  rw [e7] at e5
  have hzz : z.2.2.2.2.2.1 ≤ z1.2.2.2.2.2.1 ∧ z.2.2.2.2.2.2 ≤ z1.2.2.2.2.2.2 := ⟨hz1, hz2⟩
  by_cases hk : k = 0
  · have eL' := eL hk
    subst hk
    refine ⟨D', L1, z1, some (.int (ab_I 0)), some (.int (ab_I b)), x8, ?_, hI, hz1, hz2⟩
    simp (discharger := first | assumption | exact True.intro | exact not_false | (refine ab_gK ?_; with_unfolding_all rfl) | exact ab_rgI (by omega) (by omega) | omega) only [e1, e2, ab_re_v hzz, e5, eL', bb_lg_self, ab_e0_660, ab_e0_661, ab_e0_662, ab_e0_664, ab_e0_665, ab_e0_666, ab_e0_667, ab_e0_668, ab_e0_671, ab_e0_673, ab_e0_674, ab_e0_675, ab_e0_677, ab_e0_678, ab_e0_679, ab_e0_680, ab_e0_683, ab_e0_685, ab_e0_686, ab_e0_689, ab_e0_691, ab_e0_694, ab_e0_695, ab_e0_696, ab_e0_698, ab_e0_701, ab_e0_702, ab_e0_703, ab_e0_704, ab_e0_706, ab_e0_707, ab_e0_708, ab_e0_711, ab_e0_712, ab_e0_713, ab_br_t, ab_br_f, ab_re_v (ab_zz _), ab_re_n (ab_zz _)]
  · refine ⟨D', L1, z1, some (.int (ab_I k)), some (.int (ab_I b)), x8, ?_, hI, hz1, hz2⟩
    simp (discharger := first | assumption | exact True.intro | exact not_false | (refine ab_gK ?_; with_unfolding_all rfl) | exact ab_rgI (by omega) (by omega) | omega) only [e1, e2, ab_re_v hzz, e5, ab_e0_660, ab_e0_661, ab_e0_662, ab_e0_664, ab_e0_665, ab_e0_666, ab_e0_667, ab_e0_668, ab_e0_671, ab_e0_673, ab_e0_674, ab_e0_675, ab_e0_677, ab_e0_678, ab_e0_679, ab_e0_680, ab_e0_683, ab_e0_685, ab_e0_686, ab_e0_689, ab_e0_691, ab_e0_694, ab_e0_695, ab_e0_696, ab_e0_698, ab_e0_701, ab_e0_702, ab_e0_703, ab_e0_704, ab_e0_706, ab_e0_707, ab_e0_708, ab_e0_711, ab_e0_712, ab_e0_713, ab_br_t, ab_br_f, ab_re_v (ab_zz _), ab_re_n (ab_zz _)]

theorem bb_c7 {K : ab_Kt} {D : Nat → Int → Int} {L : Nat → Int → Int64} {z : ab_Z} {n i : Int} (hn : n < 512) (h : bb_INV n D L z) (i0 : 0 ≤ i) (i5 : i + 5 ≤ (K.1 : Int)) (hK : (K.1 : Int) ≤ 3000) {x6 x7 x8 : Option Value} : bb_LW K n i D L z 716 x6 x7 x8 := by
  have s1 := bb_K_rg K (i + 1)
  have s2 := bb_K_rg K (i + 2)
  obtain ⟨D1, L1, z1, D', k, b, e1, e2, k2, e7, eL, hI, hz1, hz2⟩ := bb_op70 (K := K) hn h (bb_K_rg K (i + 1)) (bb_K_rg K (i + 2))
  have e5 := bb_y5 (K := K) (D := D') (L := L1) (z := z1)
  rw [e7] at e5
  have hzz : z.2.2.2.2.2.1 ≤ z1.2.2.2.2.2.1 ∧ z.2.2.2.2.2.2 ≤ z1.2.2.2.2.2.2 := ⟨hz1, hz2⟩
  by_cases hk : k = 0
  · have eL' := eL hk
    subst hk
    refine ⟨D', L1, z1, some (.int (ab_I 0)), some (.int (ab_I b)), x8, ?_, hI, hz1, hz2⟩
    simp (discharger := first | assumption | exact True.intro | exact not_false | (refine ab_gK ?_; with_unfolding_all rfl) | exact ab_rgI (by omega) (by omega) | omega) only [e1, e2, ab_re_v hzz, e5, eL', bb_lg_self, ab_e0_716, ab_e0_717, ab_e0_718, ab_e0_720, ab_e0_721, ab_e0_722, ab_e0_723, ab_e0_724, ab_e0_726, ab_e0_727, ab_e0_728, ab_e0_729, ab_e0_730, ab_e0_733, ab_e0_735, ab_e0_736, ab_e0_737, ab_e0_739, ab_e0_740, ab_e0_741, ab_e0_742, ab_e0_743, ab_e0_745, ab_e0_746, ab_e0_747, ab_e0_748, ab_e0_751, ab_e0_753, ab_e0_754, ab_e0_757, ab_e0_759, ab_e0_762, ab_e0_763, ab_e0_764, ab_e0_766, ab_e0_769, ab_e0_770, ab_e0_771, ab_e0_772, ab_e0_774, ab_e0_775, ab_e0_776, ab_e0_779, ab_e0_780, ab_e0_781, ab_br_t, ab_br_f, ab_re_v (ab_zz _), ab_re_n (ab_zz _)]
  · refine ⟨D', L1, z1, some (.int (ab_I k)), some (.int (ab_I b)), x8, ?_, hI, hz1, hz2⟩
    simp (discharger := first | assumption | exact True.intro | exact not_false | (refine ab_gK ?_; with_unfolding_all rfl) | exact ab_rgI (by omega) (by omega) | omega) only [e1, e2, ab_re_v hzz, e5, ab_e0_716, ab_e0_717, ab_e0_718, ab_e0_720, ab_e0_721, ab_e0_722, ab_e0_723, ab_e0_724, ab_e0_726, ab_e0_727, ab_e0_728, ab_e0_729, ab_e0_730, ab_e0_733, ab_e0_735, ab_e0_736, ab_e0_737, ab_e0_739, ab_e0_740, ab_e0_741, ab_e0_742, ab_e0_743, ab_e0_745, ab_e0_746, ab_e0_747, ab_e0_748, ab_e0_751, ab_e0_753, ab_e0_754, ab_e0_757, ab_e0_759, ab_e0_762, ab_e0_763, ab_e0_764, ab_e0_766, ab_e0_769, ab_e0_770, ab_e0_771, ab_e0_772, ab_e0_774, ab_e0_775, ab_e0_776, ab_e0_779, ab_e0_780, ab_e0_781, ab_br_t, ab_br_f, ab_re_v (ab_zz _), ab_re_n (ab_zz _)]

theorem bb_c8 {K : ab_Kt} {D : Nat → Int → Int} {L : Nat → Int → Int64} {z : ab_Z} {n i : Int} (hn : n < 512) (h : bb_INV n D L z) (i0 : 0 ≤ i) (i5 : i + 5 ≤ (K.1 : Int)) (hK : (K.1 : Int) ≤ 3000) {x6 x7 x8 : Option Value} : bb_LW K n i D L z 784 x6 x7 x8 := by
  have s1 := bb_K_rg K (i + 1)
  have s2 := bb_K_rg K (i + 2)
  obtain ⟨D1, L1, z1, D', k, b, e1, e2, k2, e7, eL, hI, hz1, hz2⟩ := bb_op68 (K := K) hn h (bb_K_rg K (i + 1)) (bb_K_rg K (i + 2))
  have e5 := bb_y5 (K := K) (D := D') (L := L1) (z := z1)
  rw [e7] at e5
  have hzz : z.2.2.2.2.2.1 ≤ z1.2.2.2.2.2.1 ∧ z.2.2.2.2.2.2 ≤ z1.2.2.2.2.2.2 := ⟨hz1, hz2⟩
  by_cases hk : k = 0
  · have eL' := eL hk
    subst hk
    refine ⟨D', L1, z1, some (.int (ab_I 0)), some (.int (ab_I b)), x8, ?_, hI, hz1, hz2⟩
    simp (discharger := first | assumption | exact True.intro | exact not_false | (refine ab_gK ?_; with_unfolding_all rfl) | exact ab_rgI (by omega) (by omega) | omega) only [e1, e2, ab_re_v hzz, e5, eL', bb_lg_self, ab_e0_784, ab_e0_785, ab_e0_786, ab_e0_788, ab_e0_789, ab_e0_790, ab_e0_791, ab_e0_792, ab_e0_794, ab_e0_795, ab_e0_796, ab_e0_797, ab_e0_798, ab_e0_801, ab_e0_803, ab_e0_804, ab_e0_805, ab_e0_807, ab_e0_808, ab_e0_809, ab_e0_810, ab_e0_811, ab_e0_813, ab_e0_814, ab_e0_815, ab_e0_816, ab_e0_819, ab_e0_821, ab_e0_822, ab_e0_825, ab_e0_827, ab_e0_830, ab_e0_831, ab_e0_832, ab_e0_834, ab_e0_837, ab_e0_838, ab_e0_839, ab_e0_840, ab_e0_842, ab_e0_843, ab_e0_844, ab_e0_847, ab_e0_848, ab_e0_849, ab_br_t, ab_br_f, ab_re_v (ab_zz _), ab_re_n (ab_zz _)]
  · refine ⟨D', L1, z1, some (.int (ab_I k)), some (.int (ab_I b)), x8, ?_, hI, hz1, hz2⟩
    simp (discharger := first | assumption | exact True.intro | exact not_false | (refine ab_gK ?_; with_unfolding_all rfl) | exact ab_rgI (by omega) (by omega) | omega) only [e1, e2, ab_re_v hzz, e5, ab_e0_784, ab_e0_785, ab_e0_786, ab_e0_788, ab_e0_789, ab_e0_790, ab_e0_791, ab_e0_792, ab_e0_794, ab_e0_795, ab_e0_796, ab_e0_797, ab_e0_798, ab_e0_801, ab_e0_803, ab_e0_804, ab_e0_805, ab_e0_807, ab_e0_808, ab_e0_809, ab_e0_810, ab_e0_811, ab_e0_813, ab_e0_814, ab_e0_815, ab_e0_816, ab_e0_819, ab_e0_821, ab_e0_822, ab_e0_825, ab_e0_827, ab_e0_830, ab_e0_831, ab_e0_832, ab_e0_834, ab_e0_837, ab_e0_838, ab_e0_839, ab_e0_840, ab_e0_842, ab_e0_843, ab_e0_844, ab_e0_847, ab_e0_848, ab_e0_849, ab_br_t, ab_br_f, ab_re_v (ab_zz _), ab_re_n (ab_zz _)]

theorem bb_c9 {K : ab_Kt} {D : Nat → Int → Int} {L : Nat → Int → Int64} {z : ab_Z} {n i : Int} (hn : n < 512) (h : bb_INV n D L z) (i0 : 0 ≤ i) (i5 : i + 5 ≤ (K.1 : Int)) (hK : (K.1 : Int) ≤ 3000) {x6 x7 x8 : Option Value} : bb_LW K n i D L z 852 x6 x7 x8 := by
  have s1 := bb_K_rg K (i + 1)
  obtain ⟨D1, L1, z1, D', k, b, e1, e2, k2, e7, eL, hI, hz1, hz2⟩ := bb_op66 (K := K) hn h (bb_K_rg K (i + 1))
  have e5 := bb_y5 (K := K) (D := D') (L := L1) (z := z1)
  rw [e7] at e5
  have hzz : z.2.2.2.2.2.1 ≤ z1.2.2.2.2.2.1 ∧ z.2.2.2.2.2.2 ≤ z1.2.2.2.2.2.2 := ⟨hz1, hz2⟩
  by_cases hk : k = 0
  · have eL' := eL hk
    subst hk
    refine ⟨D', L1, z1, some (.int (ab_I 0)), some (.int (ab_I b)), x8, ?_, hI, hz1, hz2⟩
    simp (discharger := first | assumption | exact True.intro | exact not_false | (refine ab_gK ?_; with_unfolding_all rfl) | exact ab_rgI (by omega) (by omega) | omega) only [e1, e2, ab_re_v hzz, e5, eL', bb_lg_self, ab_e0_852, ab_e0_853, ab_e0_854, ab_e0_856, ab_e0_857, ab_e0_858, ab_e0_859, ab_e0_860, ab_e0_863, ab_e0_865, ab_e0_866, ab_e0_867, ab_e0_869, ab_e0_870, ab_e0_871, ab_e0_872, ab_e0_875, ab_e0_877, ab_e0_878, ab_e0_881, ab_e0_883, ab_e0_886, ab_e0_887, ab_e0_888, ab_e0_890, ab_e0_893, ab_e0_894, ab_e0_895, ab_e0_896, ab_e0_898, ab_e0_899, ab_e0_900, ab_e0_903, ab_e0_904, ab_e0_905, ab_br_t, ab_br_f, ab_re_v (ab_zz _), ab_re_n (ab_zz _)]
  · refine ⟨D', L1, z1, some (.int (ab_I k)), some (.int (ab_I b)), x8, ?_, hI, hz1, hz2⟩
    simp (discharger := first | assumption | exact True.intro | exact not_false | (refine ab_gK ?_; with_unfolding_all rfl) | exact ab_rgI (by omega) (by omega) | omega) only [e1, e2, ab_re_v hzz, e5, ab_e0_852, ab_e0_853, ab_e0_854, ab_e0_856, ab_e0_857, ab_e0_858, ab_e0_859, ab_e0_860, ab_e0_863, ab_e0_865, ab_e0_866, ab_e0_867, ab_e0_869, ab_e0_870, ab_e0_871, ab_e0_872, ab_e0_875, ab_e0_877, ab_e0_878, ab_e0_881, ab_e0_883, ab_e0_886, ab_e0_887, ab_e0_888, ab_e0_890, ab_e0_893, ab_e0_894, ab_e0_895, ab_e0_896, ab_e0_898, ab_e0_899, ab_e0_900, ab_e0_903, ab_e0_904, ab_e0_905, ab_br_t, ab_br_f, ab_re_v (ab_zz _), ab_re_n (ab_zz _)]

theorem bb_c10 {K : ab_Kt} {D : Nat → Int → Int} {L : Nat → Int → Int64} {z : ab_Z} {n i : Int} (hn : n < 512) (h : bb_INV n D L z) (i0 : 0 ≤ i) (i5 : i + 5 ≤ (K.1 : Int)) (hK : (K.1 : Int) ≤ 3000) {x6 x7 x8 : Option Value} : bb_LW K n i D L z 908 x6 x7 x8 := by
  have s1 := bb_K_rg K (i + 1)
  have s2 := bb_K_rg K (i + 2)
  obtain ⟨D1, L1, z1, D', k, b, e1, e2, k2, e7, eL, hI, hz1, hz2⟩ := bb_op64 (K := K) hn h (bb_K_rg K (i + 1)) (bb_K_rg K (i + 2))
  have e5 := bb_y5 (K := K) (D := D') (L := L1) (z := z1)
  rw [e7] at e5
  have hzz : z.2.2.2.2.2.1 ≤ z1.2.2.2.2.2.1 ∧ z.2.2.2.2.2.2 ≤ z1.2.2.2.2.2.2 := ⟨hz1, hz2⟩
  by_cases hk : k = 0
  · have eL' := eL hk
    subst hk
    refine ⟨D', L1, z1, some (.int (ab_I 0)), some (.int (ab_I b)), x8, ?_, hI, hz1, hz2⟩
    simp (discharger := first | assumption | exact True.intro | exact not_false | (refine ab_gK ?_; with_unfolding_all rfl) | exact ab_rgI (by omega) (by omega) | omega) only [e1, e2, ab_re_v hzz, e5, eL', bb_lg_self, ab_e0_908, ab_e0_909, ab_e0_910, ab_e0_912, ab_e0_913, ab_e0_914, ab_e0_915, ab_e0_916, ab_e0_918, ab_e0_919, ab_e0_920, ab_e0_921, ab_e0_922, ab_e0_925, ab_e0_927, ab_e0_928, ab_e0_929, ab_e0_931, ab_e0_932, ab_e0_933, ab_e0_934, ab_e0_935, ab_e0_937, ab_e0_938, ab_e0_939, ab_e0_940, ab_e0_943, ab_e0_945, ab_e0_946, ab_e0_949, ab_e0_951, ab_e0_954, ab_e0_955, ab_e0_956, ab_e0_958, ab_e0_961, ab_e0_962, ab_e0_963, ab_e0_964, ab_e0_966, ab_e0_967, ab_e0_968, ab_e0_971, ab_e0_972, ab_e0_973, ab_br_t, ab_br_f, ab_re_v (ab_zz _), ab_re_n (ab_zz _)]
  · refine ⟨D', L1, z1, some (.int (ab_I k)), some (.int (ab_I b)), x8, ?_, hI, hz1, hz2⟩
    simp (discharger := first | assumption | exact True.intro | exact not_false | (refine ab_gK ?_; with_unfolding_all rfl) | exact ab_rgI (by omega) (by omega) | omega) only [e1, e2, ab_re_v hzz, e5, ab_e0_908, ab_e0_909, ab_e0_910, ab_e0_912, ab_e0_913, ab_e0_914, ab_e0_915, ab_e0_916, ab_e0_918, ab_e0_919, ab_e0_920, ab_e0_921, ab_e0_922, ab_e0_925, ab_e0_927, ab_e0_928, ab_e0_929, ab_e0_931, ab_e0_932, ab_e0_933, ab_e0_934, ab_e0_935, ab_e0_937, ab_e0_938, ab_e0_939, ab_e0_940, ab_e0_943, ab_e0_945, ab_e0_946, ab_e0_949, ab_e0_951, ab_e0_954, ab_e0_955, ab_e0_956, ab_e0_958, ab_e0_961, ab_e0_962, ab_e0_963, ab_e0_964, ab_e0_966, ab_e0_967, ab_e0_968, ab_e0_971, ab_e0_972, ab_e0_973, ab_br_t, ab_br_f, ab_re_v (ab_zz _), ab_re_n (ab_zz _)]

theorem bb_c11 {K : ab_Kt} {D : Nat → Int → Int} {L : Nat → Int → Int64} {z : ab_Z} {n i : Int} (hn : n < 512) (h : bb_INV n D L z) (i0 : 0 ≤ i) (i5 : i + 5 ≤ (K.1 : Int)) (hK : (K.1 : Int) ≤ 3000) {x6 x7 x8 : Option Value} : bb_LW K n i D L z 976 x6 x7 x8 := by
  have s1 := bb_K_rg K (i + 1)
  obtain ⟨D1, L1, z1, D', k, b, e1, e2, k2, e7, eL, hI, hz1, hz2⟩ := bb_op62 (K := K) hn h (bb_K_rg K (i + 1))
  have e5 := bb_y5 (K := K) (D := D') (L := L1) (z := z1)
  rw [e7] at e5
  have hzz : z.2.2.2.2.2.1 ≤ z1.2.2.2.2.2.1 ∧ z.2.2.2.2.2.2 ≤ z1.2.2.2.2.2.2 := ⟨hz1, hz2⟩
  by_cases hk : k = 0
  · have eL' := eL hk
    subst hk
    refine ⟨D', L1, z1, some (.int (ab_I 0)), some (.int (ab_I b)), x8, ?_, hI, hz1, hz2⟩
    simp (discharger := first | assumption | exact True.intro | exact not_false | (refine ab_gK ?_; with_unfolding_all rfl) | exact ab_rgI (by omega) (by omega) | omega) only [e1, e2, ab_re_v hzz, e5, eL', bb_lg_self, ab_e0_976, ab_e0_977, ab_e0_978, ab_e0_980, ab_e0_981, ab_e0_982, ab_e0_983, ab_e0_984, ab_e0_987, ab_e0_989, ab_e0_990, ab_e0_991, ab_e0_993, ab_e0_994, ab_e0_995, ab_e0_996, ab_e0_999, ab_e0_1001, ab_e0_1002, ab_e0_1005, ab_e0_1007, ab_e0_1010, ab_e0_1011, ab_e0_1012, ab_e0_1014, ab_e0_1017, ab_e0_1018, ab_e0_1019, ab_e0_1020, ab_e0_1022, ab_e0_1023, ab_e0_1024, ab_e0_1027, ab_e0_1028, ab_e0_1029, ab_br_t, ab_br_f, ab_re_v (ab_zz _), ab_re_n (ab_zz _)]
  · refine ⟨D', L1, z1, some (.int (ab_I k)), some (.int (ab_I b)), x8, ?_, hI, hz1, hz2⟩
    simp (discharger := first | assumption | exact True.intro | exact not_false | (refine ab_gK ?_; with_unfolding_all rfl) | exact ab_rgI (by omega) (by omega) | omega) only [e1, e2, ab_re_v hzz, e5, ab_e0_976, ab_e0_977, ab_e0_978, ab_e0_980, ab_e0_981, ab_e0_982, ab_e0_983, ab_e0_984, ab_e0_987, ab_e0_989, ab_e0_990, ab_e0_991, ab_e0_993, ab_e0_994, ab_e0_995, ab_e0_996, ab_e0_999, ab_e0_1001, ab_e0_1002, ab_e0_1005, ab_e0_1007, ab_e0_1010, ab_e0_1011, ab_e0_1012, ab_e0_1014, ab_e0_1017, ab_e0_1018, ab_e0_1019, ab_e0_1020, ab_e0_1022, ab_e0_1023, ab_e0_1024, ab_e0_1027, ab_e0_1028, ab_e0_1029, ab_br_t, ab_br_f, ab_re_v (ab_zz _), ab_re_n (ab_zz _)]

theorem bb_c12 {K : ab_Kt} {D : Nat → Int → Int} {L : Nat → Int → Int64} {z : ab_Z} {n i : Int} (hn : n < 512) (h : bb_INV n D L z) (i0 : 0 ≤ i) (i5 : i + 5 ≤ (K.1 : Int)) (hK : (K.1 : Int) ≤ 3000) {x6 x7 x8 : Option Value} : bb_LW K n i D L z 1032 x6 x7 x8 := by
  have s1 := bb_K_rg K (i + 1)
  obtain ⟨D1, L1, z1, D', k, b, e1, e2, k2, e7, eL, hI, hz1, hz2⟩ := bb_op60 (K := K) hn h (bb_K_rg K (i + 1))
  have e5 := bb_y5 (K := K) (D := D') (L := L1) (z := z1)
  rw [e7] at e5
  have hzz : z.2.2.2.2.2.1 ≤ z1.2.2.2.2.2.1 ∧ z.2.2.2.2.2.2 ≤ z1.2.2.2.2.2.2 := ⟨hz1, hz2⟩
  by_cases hk : k = 0
  · have eL' := eL hk
    subst hk
    refine ⟨D', L1, z1, some (.int (ab_I 0)), some (.int (ab_I b)), x8, ?_, hI, hz1, hz2⟩
    simp (discharger := first | assumption | exact True.intro | exact not_false | (refine ab_gK ?_; with_unfolding_all rfl) | exact ab_rgI (by omega) (by omega) | omega) only [e1, e2, ab_re_v hzz, e5, eL', bb_lg_self, ab_e0_1032, ab_e0_1033, ab_e0_1034, ab_e0_1036, ab_e0_1037, ab_e0_1038, ab_e0_1039, ab_e0_1040, ab_e0_1043, ab_e0_1045, ab_e0_1046, ab_e0_1047, ab_e0_1049, ab_e0_1050, ab_e0_1051, ab_e0_1052, ab_e0_1055, ab_e0_1057, ab_e0_1058, ab_e0_1061, ab_e0_1063, ab_e0_1066, ab_e0_1067, ab_e0_1068, ab_e0_1070, ab_e0_1073, ab_e0_1074, ab_e0_1075, ab_e0_1076, ab_e0_1078, ab_e0_1079, ab_e0_1080, ab_e0_1083, ab_e0_1084, ab_e0_1085, ab_br_t, ab_br_f, ab_re_v (ab_zz _), ab_re_n (ab_zz _)]
  · refine ⟨D', L1, z1, some (.int (ab_I k)), some (.int (ab_I b)), x8, ?_, hI, hz1, hz2⟩
    simp (discharger := first | assumption | exact True.intro | exact not_false | (refine ab_gK ?_; with_unfolding_all rfl) | exact ab_rgI (by omega) (by omega) | omega) only [e1, e2, ab_re_v hzz, e5, ab_e0_1032, ab_e0_1033, ab_e0_1034, ab_e0_1036, ab_e0_1037, ab_e0_1038, ab_e0_1039, ab_e0_1040, ab_e0_1043, ab_e0_1045, ab_e0_1046, ab_e0_1047, ab_e0_1049, ab_e0_1050, ab_e0_1051, ab_e0_1052, ab_e0_1055, ab_e0_1057, ab_e0_1058, ab_e0_1061, ab_e0_1063, ab_e0_1066, ab_e0_1067, ab_e0_1068, ab_e0_1070, ab_e0_1073, ab_e0_1074, ab_e0_1075, ab_e0_1076, ab_e0_1078, ab_e0_1079, ab_e0_1080, ab_e0_1083, ab_e0_1084, ab_e0_1085, ab_br_t, ab_br_f, ab_re_v (ab_zz _), ab_re_n (ab_zz _)]

theorem bb_c13 {K : ab_Kt} {D : Nat → Int → Int} {L : Nat → Int → Int64} {z : ab_Z} {n i : Int} (hn : n < 512) (h : bb_INV n D L z) (i0 : 0 ≤ i) (i5 : i + 5 ≤ (K.1 : Int)) (hK : (K.1 : Int) ≤ 3000) {x6 x7 x8 : Option Value} : bb_LW K n i D L z 1088 x6 x7 x8 := by
  have s1 := bb_K_rg K (i + 1)
  have s2 := bb_K_rg K (i + 2)
  obtain ⟨D1, L1, z1, D', k, b, e1, e2, k2, e7, eL, hI, hz1, hz2⟩ := bb_op58 (K := K) hn h (bb_K_rg K (i + 1)) (bb_K_rg K (i + 2))
  have e5 := bb_y5 (K := K) (D := D') (L := L1) (z := z1)
  rw [e7] at e5
  have hzz : z.2.2.2.2.2.1 ≤ z1.2.2.2.2.2.1 ∧ z.2.2.2.2.2.2 ≤ z1.2.2.2.2.2.2 := ⟨hz1, hz2⟩
  by_cases hk : k = 0
  · have eL' := eL hk
    subst hk
    refine ⟨D', L1, z1, some (.int (ab_I 0)), some (.int (ab_I b)), x8, ?_, hI, hz1, hz2⟩
    simp (discharger := first | assumption | exact True.intro | exact not_false | (refine ab_gK ?_; with_unfolding_all rfl) | exact ab_rgI (by omega) (by omega) | omega) only [e1, e2, ab_re_v hzz, e5, eL', bb_lg_self, ab_e0_1088, ab_e0_1089, ab_e0_1090, ab_e0_1092, ab_e0_1093, ab_e0_1094, ab_e0_1095, ab_e0_1096, ab_e0_1098, ab_e0_1099, ab_e0_1100, ab_e0_1101, ab_e0_1102, ab_e0_1105, ab_e0_1107, ab_e0_1108, ab_e0_1109, ab_e0_1111, ab_e0_1112, ab_e0_1113, ab_e0_1114, ab_e0_1115, ab_e0_1117, ab_e0_1118, ab_e0_1119, ab_e0_1120, ab_e0_1123, ab_e0_1125, ab_e0_1126, ab_e0_1129, ab_e0_1131, ab_e0_1134, ab_e0_1135, ab_e0_1136, ab_e0_1138, ab_e0_1141, ab_e0_1142, ab_e0_1143, ab_e0_1144, ab_e0_1146, ab_e0_1147, ab_e0_1148, ab_e0_1151, ab_e0_1152, ab_e0_1153, ab_br_t, ab_br_f, ab_re_v (ab_zz _), ab_re_n (ab_zz _)]
  · refine ⟨D', L1, z1, some (.int (ab_I k)), some (.int (ab_I b)), x8, ?_, hI, hz1, hz2⟩
    simp (discharger := first | assumption | exact True.intro | exact not_false | (refine ab_gK ?_; with_unfolding_all rfl) | exact ab_rgI (by omega) (by omega) | omega) only [e1, e2, ab_re_v hzz, e5, ab_e0_1088, ab_e0_1089, ab_e0_1090, ab_e0_1092, ab_e0_1093, ab_e0_1094, ab_e0_1095, ab_e0_1096, ab_e0_1098, ab_e0_1099, ab_e0_1100, ab_e0_1101, ab_e0_1102, ab_e0_1105, ab_e0_1107, ab_e0_1108, ab_e0_1109, ab_e0_1111, ab_e0_1112, ab_e0_1113, ab_e0_1114, ab_e0_1115, ab_e0_1117, ab_e0_1118, ab_e0_1119, ab_e0_1120, ab_e0_1123, ab_e0_1125, ab_e0_1126, ab_e0_1129, ab_e0_1131, ab_e0_1134, ab_e0_1135, ab_e0_1136, ab_e0_1138, ab_e0_1141, ab_e0_1142, ab_e0_1143, ab_e0_1144, ab_e0_1146, ab_e0_1147, ab_e0_1148, ab_e0_1151, ab_e0_1152, ab_e0_1153, ab_br_t, ab_br_f, ab_re_v (ab_zz _), ab_re_n (ab_zz _)]

theorem bb_c14 {K : ab_Kt} {D : Nat → Int → Int} {L : Nat → Int → Int64} {z : ab_Z} {n i : Int} (hn : n < 512) (h : bb_INV n D L z) (i0 : 0 ≤ i) (i5 : i + 5 ≤ (K.1 : Int)) (hK : (K.1 : Int) ≤ 3000) {x6 x7 x8 : Option Value} : bb_LW K n i D L z 1156 x6 x7 x8 := by
  have s1 := bb_K_rg K (i + 1)
  have s2 := bb_K_rg K (i + 2)
  have s3 := bb_K_rg K (i + 3)
  obtain ⟨D1, L1, z1, D', k, b, e1, e2, k2, e7, eL, hI, hz1, hz2⟩ := bb_op56 (K := K) hn h (bb_K_rg K (i + 1)) (bb_K_rg K (i + 2)) (bb_K_rg K (i + 3))
  have e5 := bb_y5 (K := K) (D := D') (L := L1) (z := z1)
  rw [e7] at e5
  have hzz : z.2.2.2.2.2.1 ≤ z1.2.2.2.2.2.1 ∧ z.2.2.2.2.2.2 ≤ z1.2.2.2.2.2.2 := ⟨hz1, hz2⟩
  by_cases hk : k = 0
  · have eL' := eL hk
    subst hk
    refine ⟨D', L1, z1, some (.int (ab_I 0)), some (.int (ab_I b)), x8, ?_, hI, hz1, hz2⟩
    simp (discharger := first | assumption | exact True.intro | exact not_false | (refine ab_gK ?_; with_unfolding_all rfl) | exact ab_rgI (by omega) (by omega) | omega) only [e1, e2, ab_re_v hzz, e5, eL', bb_lg_self, ab_e0_1156, ab_e0_1157, ab_e0_1158, ab_e0_1160, ab_e0_1161, ab_e0_1162, ab_e0_1163, ab_e0_1164, ab_e0_1166, ab_e0_1167, ab_e0_1168, ab_e0_1169, ab_e0_1170, ab_e0_1172, ab_e0_1173, ab_e0_1174, ab_e0_1175, ab_e0_1176, ab_e0_1179, ab_e0_1181, ab_e0_1182, ab_e0_1183, ab_e0_1185, ab_e0_1186, ab_e0_1187, ab_e0_1188, ab_e0_1189, ab_e0_1191, ab_e0_1192, ab_e0_1193, ab_e0_1194, ab_e0_1195, ab_e0_1197, ab_e0_1198, ab_e0_1199, ab_e0_1200, ab_e0_1203, ab_e0_1205, ab_e0_1206, ab_e0_1209, ab_e0_1211, ab_e0_1214, ab_e0_1215, ab_e0_1216, ab_e0_1218, ab_e0_1221, ab_e0_1222, ab_e0_1223, ab_e0_1224, ab_e0_1226, ab_e0_1227, ab_e0_1228, ab_e0_1231, ab_e0_1232, ab_e0_1233, ab_br_t, ab_br_f, ab_re_v (ab_zz _), ab_re_n (ab_zz _)]
  · refine ⟨D', L1, z1, some (.int (ab_I k)), some (.int (ab_I b)), x8, ?_, hI, hz1, hz2⟩
    simp (discharger := first | assumption | exact True.intro | exact not_false | (refine ab_gK ?_; with_unfolding_all rfl) | exact ab_rgI (by omega) (by omega) | omega) only [e1, e2, ab_re_v hzz, e5, ab_e0_1156, ab_e0_1157, ab_e0_1158, ab_e0_1160, ab_e0_1161, ab_e0_1162, ab_e0_1163, ab_e0_1164, ab_e0_1166, ab_e0_1167, ab_e0_1168, ab_e0_1169, ab_e0_1170, ab_e0_1172, ab_e0_1173, ab_e0_1174, ab_e0_1175, ab_e0_1176, ab_e0_1179, ab_e0_1181, ab_e0_1182, ab_e0_1183, ab_e0_1185, ab_e0_1186, ab_e0_1187, ab_e0_1188, ab_e0_1189, ab_e0_1191, ab_e0_1192, ab_e0_1193, ab_e0_1194, ab_e0_1195, ab_e0_1197, ab_e0_1198, ab_e0_1199, ab_e0_1200, ab_e0_1203, ab_e0_1205, ab_e0_1206, ab_e0_1209, ab_e0_1211, ab_e0_1214, ab_e0_1215, ab_e0_1216, ab_e0_1218, ab_e0_1221, ab_e0_1222, ab_e0_1223, ab_e0_1224, ab_e0_1226, ab_e0_1227, ab_e0_1228, ab_e0_1231, ab_e0_1232, ab_e0_1233, ab_br_t, ab_br_f, ab_re_v (ab_zz _), ab_re_n (ab_zz _)]

theorem bb_c15 {K : ab_Kt} {D : Nat → Int → Int} {L : Nat → Int → Int64} {z : ab_Z} {n i : Int} (hn : n < 512) (h : bb_INV n D L z) (i0 : 0 ≤ i) (i5 : i + 5 ≤ (K.1 : Int)) (hK : (K.1 : Int) ≤ 3000) {x6 x7 x8 : Option Value} : bb_LW K n i D L z 1236 x6 x7 x8 := by
  have s1 := bb_K_rg K (i + 1)
  have s2 := bb_K_rg K (i + 2)
  obtain ⟨D1, L1, z1, D', k, b, e1, e2, k2, e7, eL, hI, hz1, hz2⟩ := bb_op54 (K := K) hn h (bb_K_rg K (i + 1)) (bb_K_rg K (i + 2))
  have e5 := bb_y5 (K := K) (D := D') (L := L1) (z := z1)
  rw [e7] at e5
  have hzz : z.2.2.2.2.2.1 ≤ z1.2.2.2.2.2.1 ∧ z.2.2.2.2.2.2 ≤ z1.2.2.2.2.2.2 := ⟨hz1, hz2⟩
  by_cases hk : k = 0
  · have eL' := eL hk
    subst hk
    refine ⟨D', L1, z1, some (.int (ab_I 0)), some (.int (ab_I b)), x8, ?_, hI, hz1, hz2⟩
    simp (discharger := first | assumption | exact True.intro | exact not_false | (refine ab_gK ?_; with_unfolding_all rfl) | exact ab_rgI (by omega) (by omega) | omega) only [e1, e2, ab_re_v hzz, e5, eL', bb_lg_self, ab_e0_1236, ab_e0_1237, ab_e0_1238, ab_e0_1240, ab_e0_1241, ab_e0_1242, ab_e0_1243, ab_e0_1244, ab_e0_1246, ab_e0_1247, ab_e0_1248, ab_e0_1249, ab_e0_1250, ab_e0_1253, ab_e0_1255, ab_e0_1256, ab_e0_1257, ab_e0_1259, ab_e0_1260, ab_e0_1261, ab_e0_1262, ab_e0_1263, ab_e0_1265, ab_e0_1266, ab_e0_1267, ab_e0_1268, ab_e0_1271, ab_e0_1273, ab_e0_1274, ab_e0_1277, ab_e0_1279, ab_e0_1282, ab_e0_1283, ab_e0_1284, ab_e0_1286, ab_e0_1289, ab_e0_1290, ab_e0_1291, ab_e0_1292, ab_e0_1294, ab_e0_1295, ab_e0_1296, ab_e0_1299, ab_e0_1300, ab_e0_1301, ab_br_t, ab_br_f, ab_re_v (ab_zz _), ab_re_n (ab_zz _)]
  · refine ⟨D', L1, z1, some (.int (ab_I k)), some (.int (ab_I b)), x8, ?_, hI, hz1, hz2⟩
    simp (discharger := first | assumption | exact True.intro | exact not_false | (refine ab_gK ?_; with_unfolding_all rfl) | exact ab_rgI (by omega) (by omega) | omega) only [e1, e2, ab_re_v hzz, e5, ab_e0_1236, ab_e0_1237, ab_e0_1238, ab_e0_1240, ab_e0_1241, ab_e0_1242, ab_e0_1243, ab_e0_1244, ab_e0_1246, ab_e0_1247, ab_e0_1248, ab_e0_1249, ab_e0_1250, ab_e0_1253, ab_e0_1255, ab_e0_1256, ab_e0_1257, ab_e0_1259, ab_e0_1260, ab_e0_1261, ab_e0_1262, ab_e0_1263, ab_e0_1265, ab_e0_1266, ab_e0_1267, ab_e0_1268, ab_e0_1271, ab_e0_1273, ab_e0_1274, ab_e0_1277, ab_e0_1279, ab_e0_1282, ab_e0_1283, ab_e0_1284, ab_e0_1286, ab_e0_1289, ab_e0_1290, ab_e0_1291, ab_e0_1292, ab_e0_1294, ab_e0_1295, ab_e0_1296, ab_e0_1299, ab_e0_1300, ab_e0_1301, ab_br_t, ab_br_f, ab_re_v (ab_zz _), ab_re_n (ab_zz _)]

theorem bb_c16 {K : ab_Kt} {D : Nat → Int → Int} {L : Nat → Int → Int64} {z : ab_Z} {n i : Int} (hn : n < 512) (h : bb_INV n D L z) (i0 : 0 ≤ i) (i5 : i + 5 ≤ (K.1 : Int)) (hK : (K.1 : Int) ≤ 3000) {x6 x7 x8 : Option Value} : bb_LW K n i D L z 1304 x6 x7 x8 := by
  have s1 := bb_K_rg K (i + 1)
  obtain ⟨D1, L1, z1, D', k, b, e1, e2, k2, e7, eL, hI, hz1, hz2⟩ := bb_op52 (K := K) hn h (bb_K_rg K (i + 1))
  have e5 := bb_y5 (K := K) (D := D') (L := L1) (z := z1)
  rw [e7] at e5
  have hzz : z.2.2.2.2.2.1 ≤ z1.2.2.2.2.2.1 ∧ z.2.2.2.2.2.2 ≤ z1.2.2.2.2.2.2 := ⟨hz1, hz2⟩
  by_cases hk : k = 0
  · have eL' := eL hk
    subst hk
    refine ⟨D', L1, z1, some (.int (ab_I 0)), some (.int (ab_I b)), x8, ?_, hI, hz1, hz2⟩
    simp (discharger := first | assumption | exact True.intro | exact not_false | (refine ab_gK ?_; with_unfolding_all rfl) | exact ab_rgI (by omega) (by omega) | omega) only [e1, e2, ab_re_v hzz, e5, eL', bb_lg_self, ab_e0_1304, ab_e0_1305, ab_e0_1306, ab_e0_1308, ab_e0_1309, ab_e0_1310, ab_e0_1311, ab_e0_1312, ab_e0_1315, ab_e0_1317, ab_e0_1318, ab_e0_1319, ab_e0_1321, ab_e0_1322, ab_e0_1323, ab_e0_1324, ab_e0_1327, ab_e0_1329, ab_e0_1330, ab_e0_1333, ab_e0_1335, ab_e0_1338, ab_e0_1339, ab_e0_1340, ab_e0_1342, ab_e0_1345, ab_e0_1346, ab_e0_1347, ab_e0_1348, ab_e0_1350, ab_e0_1351, ab_e0_1352, ab_e0_1355, ab_e0_1356, ab_e0_1357, ab_br_t, ab_br_f, ab_re_v (ab_zz _), ab_re_n (ab_zz _)]
  · refine ⟨D', L1, z1, some (.int (ab_I k)), some (.int (ab_I b)), x8, ?_, hI, hz1, hz2⟩
    simp (discharger := first | assumption | exact True.intro | exact not_false | (refine ab_gK ?_; with_unfolding_all rfl) | exact ab_rgI (by omega) (by omega) | omega) only [e1, e2, ab_re_v hzz, e5, ab_e0_1304, ab_e0_1305, ab_e0_1306, ab_e0_1308, ab_e0_1309, ab_e0_1310, ab_e0_1311, ab_e0_1312, ab_e0_1315, ab_e0_1317, ab_e0_1318, ab_e0_1319, ab_e0_1321, ab_e0_1322, ab_e0_1323, ab_e0_1324, ab_e0_1327, ab_e0_1329, ab_e0_1330, ab_e0_1333, ab_e0_1335, ab_e0_1338, ab_e0_1339, ab_e0_1340, ab_e0_1342, ab_e0_1345, ab_e0_1346, ab_e0_1347, ab_e0_1348, ab_e0_1350, ab_e0_1351, ab_e0_1352, ab_e0_1355, ab_e0_1356, ab_e0_1357, ab_br_t, ab_br_f, ab_re_v (ab_zz _), ab_re_n (ab_zz _)]

theorem bb_c17 {K : ab_Kt} {D : Nat → Int → Int} {L : Nat → Int → Int64} {z : ab_Z} {n i : Int} (hn : n < 512) (h : bb_INV n D L z) (i0 : 0 ≤ i) (i5 : i + 5 ≤ (K.1 : Int)) (hK : (K.1 : Int) ≤ 3000) {x6 x7 x8 : Option Value} : bb_LW K n i D L z 1360 x6 x7 x8 := by
  have s1 := bb_K_rg K (i + 1)
  obtain ⟨D1, L1, z1, D', k, b, e1, e2, k2, e7, eL, hI, hz1, hz2⟩ := bb_op50 (K := K) hn h (bb_K_rg K (i + 1))
  have e5 := bb_y5 (K := K) (D := D') (L := L1) (z := z1)
  rw [e7] at e5
  have hzz : z.2.2.2.2.2.1 ≤ z1.2.2.2.2.2.1 ∧ z.2.2.2.2.2.2 ≤ z1.2.2.2.2.2.2 := ⟨hz1, hz2⟩
  by_cases hk : k = 0
  · have eL' := eL hk
    subst hk
    refine ⟨D', L1, z1, some (.int (ab_I 0)), some (.int (ab_I b)), x8, ?_, hI, hz1, hz2⟩
    simp (discharger := first | assumption | exact True.intro | exact not_false | (refine ab_gK ?_; with_unfolding_all rfl) | exact ab_rgI (by omega) (by omega) | omega) only [e1, e2, ab_re_v hzz, e5, eL', bb_lg_self, ab_e0_1360, ab_e0_1361, ab_e0_1362, ab_e0_1364, ab_e0_1365, ab_e0_1366, ab_e0_1367, ab_e0_1368, ab_e0_1371, ab_e0_1373, ab_e0_1374, ab_e0_1375, ab_e0_1377, ab_e0_1378, ab_e0_1379, ab_e0_1380, ab_e0_1383, ab_e0_1385, ab_e0_1386, ab_e0_1389, ab_e0_1391, ab_e0_1394, ab_e0_1395, ab_e0_1396, ab_e0_1398, ab_e0_1401, ab_e0_1402, ab_e0_1403, ab_e0_1404, ab_e0_1406, ab_e0_1407, ab_e0_1408, ab_e0_1411, ab_e0_1412, ab_e0_1413, ab_br_t, ab_br_f, ab_re_v (ab_zz _), ab_re_n (ab_zz _)]
  · refine ⟨D', L1, z1, some (.int (ab_I k)), some (.int (ab_I b)), x8, ?_, hI, hz1, hz2⟩
    simp (discharger := first | assumption | exact True.intro | exact not_false | (refine ab_gK ?_; with_unfolding_all rfl) | exact ab_rgI (by omega) (by omega) | omega) only [e1, e2, ab_re_v hzz, e5, ab_e0_1360, ab_e0_1361, ab_e0_1362, ab_e0_1364, ab_e0_1365, ab_e0_1366, ab_e0_1367, ab_e0_1368, ab_e0_1371, ab_e0_1373, ab_e0_1374, ab_e0_1375, ab_e0_1377, ab_e0_1378, ab_e0_1379, ab_e0_1380, ab_e0_1383, ab_e0_1385, ab_e0_1386, ab_e0_1389, ab_e0_1391, ab_e0_1394, ab_e0_1395, ab_e0_1396, ab_e0_1398, ab_e0_1401, ab_e0_1402, ab_e0_1403, ab_e0_1404, ab_e0_1406, ab_e0_1407, ab_e0_1408, ab_e0_1411, ab_e0_1412, ab_e0_1413, ab_br_t, ab_br_f, ab_re_v (ab_zz _), ab_re_n (ab_zz _)]

theorem bb_c18 {K : ab_Kt} {D : Nat → Int → Int} {L : Nat → Int → Int64} {z : ab_Z} {n i : Int} (hn : n < 512) (h : bb_INV n D L z) (i0 : 0 ≤ i) (i5 : i + 5 ≤ (K.1 : Int)) (hK : (K.1 : Int) ≤ 3000) {x6 x7 x8 : Option Value} : bb_LW K n i D L z 1416 x6 x7 x8 := by
  have s1 := bb_K_rg K (i + 1)
  obtain ⟨D1, L1, z1, D', k, b, e1, e2, k2, e7, eL, hI, hz1, hz2⟩ := bb_op48 (K := K) hn h (bb_K_rg K (i + 1))
  have e5 := bb_y5 (K := K) (D := D') (L := L1) (z := z1)
  rw [e7] at e5
  have hzz : z.2.2.2.2.2.1 ≤ z1.2.2.2.2.2.1 ∧ z.2.2.2.2.2.2 ≤ z1.2.2.2.2.2.2 := ⟨hz1, hz2⟩
  by_cases hk : k = 0
  · have eL' := eL hk
    subst hk
    refine ⟨D', L1, z1, some (.int (ab_I 0)), some (.int (ab_I b)), x8, ?_, hI, hz1, hz2⟩
    simp (discharger := first | assumption | exact True.intro | exact not_false | (refine ab_gK ?_; with_unfolding_all rfl) | exact ab_rgI (by omega) (by omega) | omega) only [e1, e2, ab_re_v hzz, e5, eL', bb_lg_self, ab_e0_1416, ab_e0_1417, ab_e0_1418, ab_e0_1420, ab_e0_1421, ab_e0_1422, ab_e0_1423, ab_e0_1424, ab_e0_1427, ab_e0_1429, ab_e0_1430, ab_e0_1431, ab_e0_1433, ab_e0_1434, ab_e0_1435, ab_e0_1436, ab_e0_1439, ab_e0_1441, ab_e0_1442, ab_e0_1445, ab_e0_1447, ab_e0_1450, ab_e0_1451, ab_e0_1452, ab_e0_1454, ab_e0_1457, ab_e0_1458, ab_e0_1459, ab_e0_1460, ab_e0_1462, ab_e0_1463, ab_e0_1464, ab_e0_1467, ab_e0_1468, ab_e0_1469, ab_br_t, ab_br_f, ab_re_v (ab_zz _), ab_re_n (ab_zz _)]
  · refine ⟨D', L1, z1, some (.int (ab_I k)), some (.int (ab_I b)), x8, ?_, hI, hz1, hz2⟩
    simp (discharger := first | assumption | exact True.intro | exact not_false | (refine ab_gK ?_; with_unfolding_all rfl) | exact ab_rgI (by omega) (by omega) | omega) only [e1, e2, ab_re_v hzz, e5, ab_e0_1416, ab_e0_1417, ab_e0_1418, ab_e0_1420, ab_e0_1421, ab_e0_1422, ab_e0_1423, ab_e0_1424, ab_e0_1427, ab_e0_1429, ab_e0_1430, ab_e0_1431, ab_e0_1433, ab_e0_1434, ab_e0_1435, ab_e0_1436, ab_e0_1439, ab_e0_1441, ab_e0_1442, ab_e0_1445, ab_e0_1447, ab_e0_1450, ab_e0_1451, ab_e0_1452, ab_e0_1454, ab_e0_1457, ab_e0_1458, ab_e0_1459, ab_e0_1460, ab_e0_1462, ab_e0_1463, ab_e0_1464, ab_e0_1467, ab_e0_1468, ab_e0_1469, ab_br_t, ab_br_f, ab_re_v (ab_zz _), ab_re_n (ab_zz _)]

theorem bb_c19 {K : ab_Kt} {D : Nat → Int → Int} {L : Nat → Int → Int64} {z : ab_Z} {n i : Int} (hn : n < 512) (h : bb_INV n D L z) (i0 : 0 ≤ i) (i5 : i + 5 ≤ (K.1 : Int)) (hK : (K.1 : Int) ≤ 3000) {x6 x7 x8 : Option Value} : bb_LW K n i D L z 1472 x6 x7 x8 := by
  have s1 := bb_K_rg K (i + 1)
  obtain ⟨D1, L1, z1, D', k, b, e1, e2, k2, e7, eL, hI, hz1, hz2⟩ := bb_op46 (K := K) hn h (bb_K_rg K (i + 1))
  have e5 := bb_y5 (K := K) (D := D') (L := L1) (z := z1)
  rw [e7] at e5
  have hzz : z.2.2.2.2.2.1 ≤ z1.2.2.2.2.2.1 ∧ z.2.2.2.2.2.2 ≤ z1.2.2.2.2.2.2 := ⟨hz1, hz2⟩
  by_cases hk : k = 0
  · have eL' := eL hk
    subst hk
    refine ⟨D', L1, z1, some (.int (ab_I 0)), some (.int (ab_I b)), x8, ?_, hI, hz1, hz2⟩
    simp (discharger := first | assumption | exact True.intro | exact not_false | (refine ab_gK ?_; with_unfolding_all rfl) | exact ab_rgI (by omega) (by omega) | omega) only [e1, e2, ab_re_v hzz, e5, eL', bb_lg_self, ab_e0_1472, ab_e0_1473, ab_e0_1474, ab_e0_1476, ab_e0_1477, ab_e0_1478, ab_e0_1479, ab_e0_1480, ab_e0_1483, ab_e0_1485, ab_e0_1486, ab_e0_1487, ab_e0_1489, ab_e0_1490, ab_e0_1491, ab_e0_1492, ab_e0_1495, ab_e0_1497, ab_e0_1498, ab_e0_1501, ab_e0_1503, ab_e0_1506, ab_e0_1507, ab_e0_1508, ab_e0_1510, ab_e0_1513, ab_e0_1514, ab_e0_1515, ab_e0_1516, ab_e0_1518, ab_e0_1519, ab_e0_1520, ab_e0_1523, ab_e0_1524, ab_e0_1525, ab_br_t, ab_br_f, ab_re_v (ab_zz _), ab_re_n (ab_zz _)]
  · refine ⟨D', L1, z1, some (.int (ab_I k)), some (.int (ab_I b)), x8, ?_, hI, hz1, hz2⟩
    simp (discharger := first | assumption | exact True.intro | exact not_false | (refine ab_gK ?_; with_unfolding_all rfl) | exact ab_rgI (by omega) (by omega) | omega) only [e1, e2, ab_re_v hzz, e5, ab_e0_1472, ab_e0_1473, ab_e0_1474, ab_e0_1476, ab_e0_1477, ab_e0_1478, ab_e0_1479, ab_e0_1480, ab_e0_1483, ab_e0_1485, ab_e0_1486, ab_e0_1487, ab_e0_1489, ab_e0_1490, ab_e0_1491, ab_e0_1492, ab_e0_1495, ab_e0_1497, ab_e0_1498, ab_e0_1501, ab_e0_1503, ab_e0_1506, ab_e0_1507, ab_e0_1508, ab_e0_1510, ab_e0_1513, ab_e0_1514, ab_e0_1515, ab_e0_1516, ab_e0_1518, ab_e0_1519, ab_e0_1520, ab_e0_1523, ab_e0_1524, ab_e0_1525, ab_br_t, ab_br_f, ab_re_v (ab_zz _), ab_re_n (ab_zz _)]

theorem bb_c20 {K : ab_Kt} {D : Nat → Int → Int} {L : Nat → Int → Int64} {z : ab_Z} {n i : Int} (hn : n < 512) (h : bb_INV n D L z) (i0 : 0 ≤ i) (i5 : i + 5 ≤ (K.1 : Int)) (hK : (K.1 : Int) ≤ 3000) {x6 x7 x8 : Option Value} : bb_LW K n i D L z 1528 x6 x7 x8 := by
  have s1 := bb_K_rg K (i + 1)
  have s2 := bb_K_rg K (i + 2)
  obtain ⟨D1, L1, z1, D', k, b, e1, e2, k2, e7, eL, hI, hz1, hz2⟩ := bb_op44 (K := K) hn h (bb_K_rg K (i + 1)) (bb_K_rg K (i + 2))
  have e5 := bb_y5 (K := K) (D := D') (L := L1) (z := z1)
  rw [e7] at e5
  have hzz : z.2.2.2.2.2.1 ≤ z1.2.2.2.2.2.1 ∧ z.2.2.2.2.2.2 ≤ z1.2.2.2.2.2.2 := ⟨hz1, hz2⟩
  by_cases hk : k = 0
  · have eL' := eL hk
    subst hk
    refine ⟨D', L1, z1, some (.int (ab_I 0)), some (.int (ab_I b)), x8, ?_, hI, hz1, hz2⟩
    simp (discharger := first | assumption | exact True.intro | exact not_false | (refine ab_gK ?_; with_unfolding_all rfl) | exact ab_rgI (by omega) (by omega) | omega) only [e1, e2, ab_re_v hzz, e5, eL', bb_lg_self, ab_e0_1528, ab_e0_1529, ab_e0_1530, ab_e0_1532, ab_e0_1533, ab_e0_1534, ab_e0_1535, ab_e0_1536, ab_e0_1538, ab_e0_1539, ab_e0_1540, ab_e0_1541, ab_e0_1542, ab_e0_1545, ab_e0_1547, ab_e0_1548, ab_e0_1549, ab_e0_1551, ab_e0_1552, ab_e0_1553, ab_e0_1554, ab_e0_1555, ab_e0_1557, ab_e0_1558, ab_e0_1559, ab_e0_1560, ab_e0_1563, ab_e0_1565, ab_e0_1566, ab_e0_1569, ab_e0_1571, ab_e0_1574, ab_e0_1575, ab_e0_1576, ab_e0_1578, ab_e0_1581, ab_e0_1582, ab_e0_1583, ab_e0_1584, ab_e0_1586, ab_e0_1587, ab_e0_1588, ab_e0_1591, ab_e0_1592, ab_e0_1593, ab_br_t, ab_br_f, ab_re_v (ab_zz _), ab_re_n (ab_zz _)]
  · refine ⟨D', L1, z1, some (.int (ab_I k)), some (.int (ab_I b)), x8, ?_, hI, hz1, hz2⟩
    simp (discharger := first | assumption | exact True.intro | exact not_false | (refine ab_gK ?_; with_unfolding_all rfl) | exact ab_rgI (by omega) (by omega) | omega) only [e1, e2, ab_re_v hzz, e5, ab_e0_1528, ab_e0_1529, ab_e0_1530, ab_e0_1532, ab_e0_1533, ab_e0_1534, ab_e0_1535, ab_e0_1536, ab_e0_1538, ab_e0_1539, ab_e0_1540, ab_e0_1541, ab_e0_1542, ab_e0_1545, ab_e0_1547, ab_e0_1548, ab_e0_1549, ab_e0_1551, ab_e0_1552, ab_e0_1553, ab_e0_1554, ab_e0_1555, ab_e0_1557, ab_e0_1558, ab_e0_1559, ab_e0_1560, ab_e0_1563, ab_e0_1565, ab_e0_1566, ab_e0_1569, ab_e0_1571, ab_e0_1574, ab_e0_1575, ab_e0_1576, ab_e0_1578, ab_e0_1581, ab_e0_1582, ab_e0_1583, ab_e0_1584, ab_e0_1586, ab_e0_1587, ab_e0_1588, ab_e0_1591, ab_e0_1592, ab_e0_1593, ab_br_t, ab_br_f, ab_re_v (ab_zz _), ab_re_n (ab_zz _)]

theorem bb_c21 {K : ab_Kt} {D : Nat → Int → Int} {L : Nat → Int → Int64} {z : ab_Z} {n i : Int} (hn : n < 512) (h : bb_INV n D L z) (i0 : 0 ≤ i) (i5 : i + 5 ≤ (K.1 : Int)) (hK : (K.1 : Int) ≤ 3000) {x6 x7 x8 : Option Value} : bb_LW K n i D L z 1596 x6 x7 x8 := by
  have s1 := bb_K_rg K (i + 1)
  obtain ⟨D1, L1, z1, D', k, b, e1, e2, k2, e7, eL, hI, hz1, hz2⟩ := bb_op42 (K := K) hn h (bb_K_rg K (i + 1))
  have e5 := bb_y5 (K := K) (D := D') (L := L1) (z := z1)
  rw [e7] at e5
  have hzz : z.2.2.2.2.2.1 ≤ z1.2.2.2.2.2.1 ∧ z.2.2.2.2.2.2 ≤ z1.2.2.2.2.2.2 := ⟨hz1, hz2⟩
  by_cases hk : k = 0
  · have eL' := eL hk
    subst hk
    refine ⟨D', L1, z1, some (.int (ab_I 0)), some (.int (ab_I b)), x8, ?_, hI, hz1, hz2⟩
    simp (discharger := first | assumption | exact True.intro | exact not_false | (refine ab_gK ?_; with_unfolding_all rfl) | exact ab_rgI (by omega) (by omega) | omega) only [e1, e2, ab_re_v hzz, e5, eL', bb_lg_self, ab_e0_1596, ab_e0_1597, ab_e0_1598, ab_e0_1600, ab_e0_1601, ab_e0_1602, ab_e0_1603, ab_e0_1604, ab_e0_1607, ab_e0_1609, ab_e0_1610, ab_e0_1611, ab_e0_1613, ab_e0_1614, ab_e0_1615, ab_e0_1616, ab_e0_1619, ab_e0_1621, ab_e0_1622, ab_e0_1625, ab_e0_1627, ab_e0_1630, ab_e0_1631, ab_e0_1632, ab_e0_1634, ab_e0_1637, ab_e0_1638, ab_e0_1639, ab_e0_1640, ab_e0_1642, ab_e0_1643, ab_e0_1644, ab_e0_1647, ab_e0_1648, ab_e0_1649, ab_br_t, ab_br_f, ab_re_v (ab_zz _), ab_re_n (ab_zz _)]
  · refine ⟨D', L1, z1, some (.int (ab_I k)), some (.int (ab_I b)), x8, ?_, hI, hz1, hz2⟩
    simp (discharger := first | assumption | exact True.intro | exact not_false | (refine ab_gK ?_; with_unfolding_all rfl) | exact ab_rgI (by omega) (by omega) | omega) only [e1, e2, ab_re_v hzz, e5, ab_e0_1596, ab_e0_1597, ab_e0_1598, ab_e0_1600, ab_e0_1601, ab_e0_1602, ab_e0_1603, ab_e0_1604, ab_e0_1607, ab_e0_1609, ab_e0_1610, ab_e0_1611, ab_e0_1613, ab_e0_1614, ab_e0_1615, ab_e0_1616, ab_e0_1619, ab_e0_1621, ab_e0_1622, ab_e0_1625, ab_e0_1627, ab_e0_1630, ab_e0_1631, ab_e0_1632, ab_e0_1634, ab_e0_1637, ab_e0_1638, ab_e0_1639, ab_e0_1640, ab_e0_1642, ab_e0_1643, ab_e0_1644, ab_e0_1647, ab_e0_1648, ab_e0_1649, ab_br_t, ab_br_f, ab_re_v (ab_zz _), ab_re_n (ab_zz _)]

theorem bb_c22 {K : ab_Kt} {D : Nat → Int → Int} {L : Nat → Int → Int64} {z : ab_Z} {n i : Int} (hn : n < 512) (h : bb_INV n D L z) (i0 : 0 ≤ i) (i5 : i + 5 ≤ (K.1 : Int)) (hK : (K.1 : Int) ≤ 3000) {x6 x7 x8 : Option Value} : bb_LW K n i D L z 1652 x6 x7 x8 := by
  have s1 := bb_K_rg K (i + 1)
  have s2 := bb_K_rg K (i + 2)
  obtain ⟨D1, L1, z1, D', k, b, e1, e2, k2, e7, eL, hI, hz1, hz2⟩ := bb_op40 (K := K) hn h (bb_K_rg K (i + 1)) (bb_K_rg K (i + 2))
  have e5 := bb_y5 (K := K) (D := D') (L := L1) (z := z1)
  rw [e7] at e5
  have hzz : z.2.2.2.2.2.1 ≤ z1.2.2.2.2.2.1 ∧ z.2.2.2.2.2.2 ≤ z1.2.2.2.2.2.2 := ⟨hz1, hz2⟩
  by_cases hk : k = 0
  · have eL' := eL hk
    subst hk
    refine ⟨D', L1, z1, some (.int (ab_I 0)), some (.int (ab_I b)), x8, ?_, hI, hz1, hz2⟩
    simp (discharger := first | assumption | exact True.intro | exact not_false | (refine ab_gK ?_; with_unfolding_all rfl) | exact ab_rgI (by omega) (by omega) | omega) only [e1, e2, ab_re_v hzz, e5, eL', bb_lg_self, ab_e0_1652, ab_e0_1653, ab_e0_1654, ab_e0_1656, ab_e0_1657, ab_e0_1658, ab_e0_1659, ab_e0_1660, ab_e0_1662, ab_e0_1663, ab_e0_1664, ab_e0_1665, ab_e0_1666, ab_e0_1669, ab_e0_1671, ab_e0_1672, ab_e0_1673, ab_e0_1675, ab_e0_1676, ab_e0_1677, ab_e0_1678, ab_e0_1679, ab_e0_1681, ab_e0_1682, ab_e0_1683, ab_e0_1684, ab_e0_1687, ab_e0_1689, ab_e0_1690, ab_e0_1693, ab_e0_1695, ab_e0_1698, ab_e0_1699, ab_e0_1700, ab_e0_1702, ab_e0_1705, ab_e0_1706, ab_e0_1707, ab_e0_1708, ab_e0_1710, ab_e0_1711, ab_e0_1712, ab_e0_1715, ab_e0_1716, ab_e0_1717, ab_br_t, ab_br_f, ab_re_v (ab_zz _), ab_re_n (ab_zz _)]
  · refine ⟨D', L1, z1, some (.int (ab_I k)), some (.int (ab_I b)), x8, ?_, hI, hz1, hz2⟩
    simp (discharger := first | assumption | exact True.intro | exact not_false | (refine ab_gK ?_; with_unfolding_all rfl) | exact ab_rgI (by omega) (by omega) | omega) only [e1, e2, ab_re_v hzz, e5, ab_e0_1652, ab_e0_1653, ab_e0_1654, ab_e0_1656, ab_e0_1657, ab_e0_1658, ab_e0_1659, ab_e0_1660, ab_e0_1662, ab_e0_1663, ab_e0_1664, ab_e0_1665, ab_e0_1666, ab_e0_1669, ab_e0_1671, ab_e0_1672, ab_e0_1673, ab_e0_1675, ab_e0_1676, ab_e0_1677, ab_e0_1678, ab_e0_1679, ab_e0_1681, ab_e0_1682, ab_e0_1683, ab_e0_1684, ab_e0_1687, ab_e0_1689, ab_e0_1690, ab_e0_1693, ab_e0_1695, ab_e0_1698, ab_e0_1699, ab_e0_1700, ab_e0_1702, ab_e0_1705, ab_e0_1706, ab_e0_1707, ab_e0_1708, ab_e0_1710, ab_e0_1711, ab_e0_1712, ab_e0_1715, ab_e0_1716, ab_e0_1717, ab_br_t, ab_br_f, ab_re_v (ab_zz _), ab_re_n (ab_zz _)]

theorem bb_c23 {K : ab_Kt} {D : Nat → Int → Int} {L : Nat → Int → Int64} {z : ab_Z} {n i : Int} (hn : n < 512) (h : bb_INV n D L z) (i0 : 0 ≤ i) (i5 : i + 5 ≤ (K.1 : Int)) (hK : (K.1 : Int) ≤ 3000) {x6 x7 x8 : Option Value} : bb_LW K n i D L z 1720 x6 x7 x8 := by
  have s1 := bb_K_rg K (i + 1)
  obtain ⟨D1, L1, z1, D', k, b, e1, e2, k2, e7, eL, hI, hz1, hz2⟩ := bb_op38 (K := K) hn h (bb_K_rg K (i + 1))
  have e5 := bb_y5 (K := K) (D := D') (L := L1) (z := z1)
  rw [e7] at e5
  have hzz : z.2.2.2.2.2.1 ≤ z1.2.2.2.2.2.1 ∧ z.2.2.2.2.2.2 ≤ z1.2.2.2.2.2.2 := ⟨hz1, hz2⟩
  by_cases hk : k = 0
  · have eL' := eL hk
    subst hk
    refine ⟨D', L1, z1, some (.int (ab_I 0)), some (.int (ab_I b)), x8, ?_, hI, hz1, hz2⟩
    simp (discharger := first | assumption | exact True.intro | exact not_false | (refine ab_gK ?_; with_unfolding_all rfl) | exact ab_rgI (by omega) (by omega) | omega) only [e1, e2, ab_re_v hzz, e5, eL', bb_lg_self, ab_e0_1720, ab_e0_1721, ab_e0_1722, ab_e0_1724, ab_e0_1725, ab_e0_1726, ab_e0_1727, ab_e0_1728, ab_e0_1731, ab_e0_1733, ab_e0_1734, ab_e0_1735, ab_e0_1737, ab_e0_1738, ab_e0_1739, ab_e0_1740, ab_e0_1743, ab_e0_1745, ab_e0_1746, ab_e0_1749, ab_e0_1751, ab_e0_1754, ab_e0_1755, ab_e0_1756, ab_e0_1758, ab_e0_1761, ab_e0_1762, ab_e0_1763, ab_e0_1764, ab_e0_1766, ab_e0_1767, ab_e0_1768, ab_e0_1771, ab_e0_1772, ab_e0_1773, ab_br_t, ab_br_f, ab_re_v (ab_zz _), ab_re_n (ab_zz _)]
  · refine ⟨D', L1, z1, some (.int (ab_I k)), some (.int (ab_I b)), x8, ?_, hI, hz1, hz2⟩
    simp (discharger := first | assumption | exact True.intro | exact not_false | (refine ab_gK ?_; with_unfolding_all rfl) | exact ab_rgI (by omega) (by omega) | omega) only [e1, e2, ab_re_v hzz, e5, ab_e0_1720, ab_e0_1721, ab_e0_1722, ab_e0_1724, ab_e0_1725, ab_e0_1726, ab_e0_1727, ab_e0_1728, ab_e0_1731, ab_e0_1733, ab_e0_1734, ab_e0_1735, ab_e0_1737, ab_e0_1738, ab_e0_1739, ab_e0_1740, ab_e0_1743, ab_e0_1745, ab_e0_1746, ab_e0_1749, ab_e0_1751, ab_e0_1754, ab_e0_1755, ab_e0_1756, ab_e0_1758, ab_e0_1761, ab_e0_1762, ab_e0_1763, ab_e0_1764, ab_e0_1766, ab_e0_1767, ab_e0_1768, ab_e0_1771, ab_e0_1772, ab_e0_1773, ab_br_t, ab_br_f, ab_re_v (ab_zz _), ab_re_n (ab_zz _)]

theorem bb_c24 {K : ab_Kt} {D : Nat → Int → Int} {L : Nat → Int → Int64} {z : ab_Z} {n i : Int} (hn : n < 512) (h : bb_INV n D L z) (i0 : 0 ≤ i) (i5 : i + 5 ≤ (K.1 : Int)) (hK : (K.1 : Int) ≤ 3000) {x6 x7 x8 : Option Value} : bb_LW K n i D L z 1776 x6 x7 x8 := by
  have s1 := bb_K_rg K (i + 1)
  have s2 := bb_K_rg K (i + 2)
  obtain ⟨D1, L1, z1, D', k, b, e1, e2, k2, e7, eL, hI, hz1, hz2, hb01⟩ := bb_op36b (K := K) hn h (bb_K_rg K (i + 1)) (bb_K_rg K (i + 2))
  have e5 := bb_y5 (K := K) (D := D') (L := L1) (z := z1)
  rw [e7] at e5
  have hzz : z.2.2.2.2.2.1 ≤ z1.2.2.2.2.2.1 ∧ z.2.2.2.2.2.2 ≤ z1.2.2.2.2.2.2 := ⟨hz1, hz2⟩
  by_cases hk : k = 0
  · have eL' := eL hk
    subst hk
    refine ⟨D', L1, z1, some (.int (ab_I 0)), some (.int (ab_I b)), x8, ?_, hI, hz1, hz2⟩
    rcases hb01 with rfl | rfl
    · simp (discharger := first | assumption | exact True.intro | exact not_false | (refine ab_gK ?_; with_unfolding_all rfl) | exact ab_rgI (by omega) (by omega) | omega) only [e1, e2, ab_re_v hzz, e5, eL', show lg_cmp ((ab_I 0).toInt64) 0 = ab_I 0 from by decide, ab_e0_1776, ab_e0_1777, ab_e0_1778, ab_e0_1780, ab_e0_1781, ab_e0_1782, ab_e0_1783, ab_e0_1784, ab_e0_1786, ab_e0_1787, ab_e0_1788, ab_e0_1789, ab_e0_1790, ab_e0_1793, ab_e0_1795, ab_e0_1796, ab_e0_1797, ab_e0_1799, ab_e0_1800, ab_e0_1801, ab_e0_1802, ab_e0_1803, ab_e0_1805, ab_e0_1806, ab_e0_1807, ab_e0_1808, ab_e0_1811, ab_e0_1813, ab_e0_1814, ab_e0_1817, ab_e0_1819, ab_e0_1822, ab_e0_1823, ab_e0_1824, ab_e0_1826, ab_e0_1829, ab_e0_1830, ab_e0_1831, ab_e0_1832, ab_e0_1834, ab_e0_1837, ab_e0_1838, ab_e0_1841, ab_e0_1842, ab_e0_1843, ab_e0_1846, ab_e0_1847, ab_e0_1848, ab_br_t, ab_br_f, ab_re_v (ab_zz _), ab_re_n (ab_zz _)]
    · simp (discharger := first | assumption | exact True.intro | exact not_false | (refine ab_gK ?_; with_unfolding_all rfl) | exact ab_rgI (by omega) (by omega) | omega) only [e1, e2, ab_re_v hzz, e5, eL', show lg_cmp ((ab_I 1).toInt64) 1 = ab_I 0 from by decide, ab_e0_1776, ab_e0_1777, ab_e0_1778, ab_e0_1780, ab_e0_1781, ab_e0_1782, ab_e0_1783, ab_e0_1784, ab_e0_1786, ab_e0_1787, ab_e0_1788, ab_e0_1789, ab_e0_1790, ab_e0_1793, ab_e0_1795, ab_e0_1796, ab_e0_1797, ab_e0_1799, ab_e0_1800, ab_e0_1801, ab_e0_1802, ab_e0_1803, ab_e0_1805, ab_e0_1806, ab_e0_1807, ab_e0_1808, ab_e0_1811, ab_e0_1813, ab_e0_1814, ab_e0_1817, ab_e0_1819, ab_e0_1822, ab_e0_1823, ab_e0_1824, ab_e0_1826, ab_e0_1829, ab_e0_1830, ab_e0_1831, ab_e0_1832, ab_e0_1834, ab_e0_1837, ab_e0_1838, ab_e0_1841, ab_e0_1842, ab_e0_1843, ab_e0_1846, ab_e0_1847, ab_e0_1848, ab_br_t, ab_br_f, ab_re_v (ab_zz _), ab_re_n (ab_zz _)]
  · refine ⟨D', L1, z1, some (.int (ab_I k)), some (.int (ab_I b)), x8, ?_, hI, hz1, hz2⟩
    simp (discharger := first | assumption | exact True.intro | exact not_false | (refine ab_gK ?_; with_unfolding_all rfl) | exact ab_rgI (by omega) (by omega) | omega) only [e1, e2, ab_re_v hzz, e5, ab_e0_1776, ab_e0_1777, ab_e0_1778, ab_e0_1780, ab_e0_1781, ab_e0_1782, ab_e0_1783, ab_e0_1784, ab_e0_1786, ab_e0_1787, ab_e0_1788, ab_e0_1789, ab_e0_1790, ab_e0_1793, ab_e0_1795, ab_e0_1796, ab_e0_1797, ab_e0_1799, ab_e0_1800, ab_e0_1801, ab_e0_1802, ab_e0_1803, ab_e0_1805, ab_e0_1806, ab_e0_1807, ab_e0_1808, ab_e0_1811, ab_e0_1813, ab_e0_1814, ab_e0_1817, ab_e0_1819, ab_e0_1822, ab_e0_1823, ab_e0_1824, ab_e0_1826, ab_e0_1829, ab_e0_1830, ab_e0_1831, ab_e0_1832, ab_e0_1834, ab_e0_1837, ab_e0_1838, ab_e0_1841, ab_e0_1842, ab_e0_1843, ab_e0_1846, ab_e0_1847, ab_e0_1848, ab_br_t, ab_br_f, ab_re_v (ab_zz _), ab_re_n (ab_zz _)]

theorem bb_c25 {K : ab_Kt} {D : Nat → Int → Int} {L : Nat → Int → Int64} {z : ab_Z} {n i : Int} (hn : n < 512) (h : bb_INV n D L z) (i0 : 0 ≤ i) (i5 : i + 5 ≤ (K.1 : Int)) (hK : (K.1 : Int) ≤ 3000) {x6 x7 x8 : Option Value} : bb_LW K n i D L z 1851 x6 x7 x8 := by
  have s1 := bb_K_rg K (i + 1)
  have s2 := bb_K_rg K (i + 2)
  obtain ⟨D1, L1, z1, D', k, b, e1, e2, k2, e7, eL, hI, hz1, hz2⟩ := bb_op34 (K := K) hn h (bb_K_rg K (i + 1)) (bb_K_rg K (i + 2))
  have e5 := bb_y5 (K := K) (D := D') (L := L1) (z := z1)
  rw [e7] at e5
  have hzz : z.2.2.2.2.2.1 ≤ z1.2.2.2.2.2.1 ∧ z.2.2.2.2.2.2 ≤ z1.2.2.2.2.2.2 := ⟨hz1, hz2⟩
  by_cases hk : k = 0
  · have eL' := eL hk
    subst hk
    refine ⟨D', L1, z1, some (.int (ab_I 0)), some (.int (ab_I b)), x8, ?_, hI, hz1, hz2⟩
    simp (discharger := first | assumption | exact True.intro | exact not_false | (refine ab_gK ?_; with_unfolding_all rfl) | exact ab_rgI (by omega) (by omega) | omega) only [e1, e2, ab_re_v hzz, e5, eL', bb_lg_self, ab_e0_1851, ab_e0_1852, ab_e0_1853, ab_e0_1855, ab_e0_1856, ab_e0_1857, ab_e0_1858, ab_e0_1859, ab_e0_1861, ab_e0_1862, ab_e0_1863, ab_e0_1864, ab_e0_1865, ab_e0_1868, ab_e0_1870, ab_e0_1871, ab_e0_1872, ab_e0_1874, ab_e0_1875, ab_e0_1876, ab_e0_1877, ab_e0_1878, ab_e0_1880, ab_e0_1881, ab_e0_1882, ab_e0_1883, ab_e0_1886, ab_e0_1888, ab_e0_1889, ab_e0_1892, ab_e0_1894, ab_e0_1897, ab_e0_1898, ab_e0_1899, ab_e0_1901, ab_e0_1904, ab_e0_1905, ab_e0_1906, ab_e0_1907, ab_e0_1909, ab_e0_1910, ab_e0_1911, ab_e0_1914, ab_e0_1915, ab_e0_1916, ab_br_t, ab_br_f, ab_re_v (ab_zz _), ab_re_n (ab_zz _)]
  · refine ⟨D', L1, z1, some (.int (ab_I k)), some (.int (ab_I b)), x8, ?_, hI, hz1, hz2⟩
    simp (discharger := first | assumption | exact True.intro | exact not_false | (refine ab_gK ?_; with_unfolding_all rfl) | exact ab_rgI (by omega) (by omega) | omega) only [e1, e2, ab_re_v hzz, e5, ab_e0_1851, ab_e0_1852, ab_e0_1853, ab_e0_1855, ab_e0_1856, ab_e0_1857, ab_e0_1858, ab_e0_1859, ab_e0_1861, ab_e0_1862, ab_e0_1863, ab_e0_1864, ab_e0_1865, ab_e0_1868, ab_e0_1870, ab_e0_1871, ab_e0_1872, ab_e0_1874, ab_e0_1875, ab_e0_1876, ab_e0_1877, ab_e0_1878, ab_e0_1880, ab_e0_1881, ab_e0_1882, ab_e0_1883, ab_e0_1886, ab_e0_1888, ab_e0_1889, ab_e0_1892, ab_e0_1894, ab_e0_1897, ab_e0_1898, ab_e0_1899, ab_e0_1901, ab_e0_1904, ab_e0_1905, ab_e0_1906, ab_e0_1907, ab_e0_1909, ab_e0_1910, ab_e0_1911, ab_e0_1914, ab_e0_1915, ab_e0_1916, ab_br_t, ab_br_f, ab_re_v (ab_zz _), ab_re_n (ab_zz _)]

theorem bb_c26 {K : ab_Kt} {D : Nat → Int → Int} {L : Nat → Int → Int64} {z : ab_Z} {n i : Int} (hn : n < 512) (h : bb_INV n D L z) (i0 : 0 ≤ i) (i5 : i + 5 ≤ (K.1 : Int)) (hK : (K.1 : Int) ≤ 3000) {x6 x7 x8 : Option Value} : bb_LW K n i D L z 1919 x6 x7 x8 := by
  have s1 := bb_K_rg K (i + 1)
  obtain ⟨D1, L1, z1, D', k, b, e1, e2, k2, e7, eL, hI, hz1, hz2⟩ := bb_op32 (K := K) hn h (bb_K_rg K (i + 1))
  have e5 := bb_y5 (K := K) (D := D') (L := L1) (z := z1)
  rw [e7] at e5
  have hzz : z.2.2.2.2.2.1 ≤ z1.2.2.2.2.2.1 ∧ z.2.2.2.2.2.2 ≤ z1.2.2.2.2.2.2 := ⟨hz1, hz2⟩
  by_cases hk : k = 0
  · have eL' := eL hk
    subst hk
    refine ⟨D', L1, z1, some (.int (ab_I 0)), some (.int (ab_I b)), x8, ?_, hI, hz1, hz2⟩
    simp (discharger := first | assumption | exact True.intro | exact not_false | (refine ab_gK ?_; with_unfolding_all rfl) | exact ab_rgI (by omega) (by omega) | omega) only [e1, e2, ab_re_v hzz, e5, eL', bb_lg_self, ab_e0_1919, ab_e0_1920, ab_e0_1921, ab_e0_1923, ab_e0_1924, ab_e0_1925, ab_e0_1926, ab_e0_1927, ab_e0_1930, ab_e0_1932, ab_e0_1933, ab_e0_1934, ab_e0_1936, ab_e0_1937, ab_e0_1938, ab_e0_1939, ab_e0_1942, ab_e0_1944, ab_e0_1945, ab_e0_1948, ab_e0_1950, ab_e0_1953, ab_e0_1954, ab_e0_1955, ab_e0_1957, ab_e0_1960, ab_e0_1961, ab_e0_1962, ab_e0_1963, ab_e0_1965, ab_e0_1966, ab_e0_1967, ab_e0_1970, ab_e0_1971, ab_e0_1972, ab_br_t, ab_br_f, ab_re_v (ab_zz _), ab_re_n (ab_zz _)]
  · refine ⟨D', L1, z1, some (.int (ab_I k)), some (.int (ab_I b)), x8, ?_, hI, hz1, hz2⟩
    simp (discharger := first | assumption | exact True.intro | exact not_false | (refine ab_gK ?_; with_unfolding_all rfl) | exact ab_rgI (by omega) (by omega) | omega) only [e1, e2, ab_re_v hzz, e5, ab_e0_1919, ab_e0_1920, ab_e0_1921, ab_e0_1923, ab_e0_1924, ab_e0_1925, ab_e0_1926, ab_e0_1927, ab_e0_1930, ab_e0_1932, ab_e0_1933, ab_e0_1934, ab_e0_1936, ab_e0_1937, ab_e0_1938, ab_e0_1939, ab_e0_1942, ab_e0_1944, ab_e0_1945, ab_e0_1948, ab_e0_1950, ab_e0_1953, ab_e0_1954, ab_e0_1955, ab_e0_1957, ab_e0_1960, ab_e0_1961, ab_e0_1962, ab_e0_1963, ab_e0_1965, ab_e0_1966, ab_e0_1967, ab_e0_1970, ab_e0_1971, ab_e0_1972, ab_br_t, ab_br_f, ab_re_v (ab_zz _), ab_re_n (ab_zz _)]

theorem bb_c27 {K : ab_Kt} {D : Nat → Int → Int} {L : Nat → Int → Int64} {z : ab_Z} {n i : Int} (hn : n < 512) (h : bb_INV n D L z) (i0 : 0 ≤ i) (i5 : i + 5 ≤ (K.1 : Int)) (hK : (K.1 : Int) ≤ 3000) {x6 x7 x8 : Option Value} : bb_LW K n i D L z 1975 x6 x7 x8 := by
  have s1 := bb_K_rg K (i + 1)
  obtain ⟨D1, L1, z1, D', k, b, e1, e2, k2, e7, eL, hI, hz1, hz2⟩ := bb_op30 (K := K) hn h (bb_K_rg K (i + 1))
  have e5 := bb_y5 (K := K) (D := D') (L := L1) (z := z1)
  rw [e7] at e5
  have hzz : z.2.2.2.2.2.1 ≤ z1.2.2.2.2.2.1 ∧ z.2.2.2.2.2.2 ≤ z1.2.2.2.2.2.2 := ⟨hz1, hz2⟩
  by_cases hk : k = 0
  · have eL' := eL hk
    subst hk
    refine ⟨D', L1, z1, some (.int (ab_I 0)), some (.int (ab_I b)), x8, ?_, hI, hz1, hz2⟩
    simp (discharger := first | assumption | exact True.intro | exact not_false | (refine ab_gK ?_; with_unfolding_all rfl) | exact ab_rgI (by omega) (by omega) | omega) only [e1, e2, ab_re_v hzz, e5, eL', bb_lg_self, ab_e0_1975, ab_e0_1976, ab_e0_1977, ab_e0_1979, ab_e0_1980, ab_e0_1981, ab_e0_1982, ab_e0_1983, ab_e0_1986, ab_e0_1988, ab_e0_1989, ab_e0_1990, ab_e0_1992, ab_e0_1993, ab_e0_1994, ab_e0_1995, ab_e0_1998, ab_e0_2000, ab_e0_2001, ab_e0_2004, ab_e0_2006, ab_e0_2009, ab_e0_2010, ab_e0_2011, ab_e0_2013, ab_e0_2016, ab_e0_2017, ab_e0_2018, ab_e0_2019, ab_e0_2021, ab_e0_2022, ab_e0_2023, ab_e0_2026, ab_e0_2027, ab_e0_2028, ab_br_t, ab_br_f, ab_re_v (ab_zz _), ab_re_n (ab_zz _)]
  · refine ⟨D', L1, z1, some (.int (ab_I k)), some (.int (ab_I b)), x8, ?_, hI, hz1, hz2⟩
    simp (discharger := first | assumption | exact True.intro | exact not_false | (refine ab_gK ?_; with_unfolding_all rfl) | exact ab_rgI (by omega) (by omega) | omega) only [e1, e2, ab_re_v hzz, e5, ab_e0_1975, ab_e0_1976, ab_e0_1977, ab_e0_1979, ab_e0_1980, ab_e0_1981, ab_e0_1982, ab_e0_1983, ab_e0_1986, ab_e0_1988, ab_e0_1989, ab_e0_1990, ab_e0_1992, ab_e0_1993, ab_e0_1994, ab_e0_1995, ab_e0_1998, ab_e0_2000, ab_e0_2001, ab_e0_2004, ab_e0_2006, ab_e0_2009, ab_e0_2010, ab_e0_2011, ab_e0_2013, ab_e0_2016, ab_e0_2017, ab_e0_2018, ab_e0_2019, ab_e0_2021, ab_e0_2022, ab_e0_2023, ab_e0_2026, ab_e0_2027, ab_e0_2028, ab_br_t, ab_br_f, ab_re_v (ab_zz _), ab_re_n (ab_zz _)]

theorem bb_c28 {K : ab_Kt} {D : Nat → Int → Int} {L : Nat → Int → Int64} {z : ab_Z} {n i : Int} (hn : n < 512) (h : bb_INV n D L z) (i0 : 0 ≤ i) (i5 : i + 5 ≤ (K.1 : Int)) (hK : (K.1 : Int) ≤ 3000) {x6 x7 x8 : Option Value} : bb_LW K n i D L z 2031 x6 x7 x8 := by
  have s1 := bb_K_rg K (i + 1)
  obtain ⟨D1, L1, z1, D', k, b, e1, e2, k2, e7, eL, hI, hz1, hz2⟩ := bb_op28 (K := K) hn h (bb_K_rg K (i + 1))
  have e5 := bb_y5 (K := K) (D := D') (L := L1) (z := z1)
  rw [e7] at e5
  have hzz : z.2.2.2.2.2.1 ≤ z1.2.2.2.2.2.1 ∧ z.2.2.2.2.2.2 ≤ z1.2.2.2.2.2.2 := ⟨hz1, hz2⟩
  by_cases hk : k = 0
  · have eL' := eL hk
    subst hk
    refine ⟨D', L1, z1, some (.int (ab_I 0)), some (.int (ab_I b)), x8, ?_, hI, hz1, hz2⟩
    simp (discharger := first | assumption | exact True.intro | exact not_false | (refine ab_gK ?_; with_unfolding_all rfl) | exact ab_rgI (by omega) (by omega) | omega) only [e1, e2, ab_re_v hzz, e5, eL', bb_lg_self, ab_e0_2031, ab_e0_2032, ab_e0_2033, ab_e0_2035, ab_e0_2036, ab_e0_2037, ab_e0_2038, ab_e0_2039, ab_e0_2042, ab_e0_2044, ab_e0_2045, ab_e0_2046, ab_e0_2048, ab_e0_2049, ab_e0_2050, ab_e0_2051, ab_e0_2054, ab_e0_2056, ab_e0_2057, ab_e0_2060, ab_e0_2062, ab_e0_2065, ab_e0_2066, ab_e0_2067, ab_e0_2069, ab_e0_2072, ab_e0_2073, ab_e0_2074, ab_e0_2075, ab_e0_2077, ab_e0_2078, ab_e0_2079, ab_e0_2082, ab_e0_2083, ab_e0_2084, ab_br_t, ab_br_f, ab_re_v (ab_zz _), ab_re_n (ab_zz _)]
  · refine ⟨D', L1, z1, some (.int (ab_I k)), some (.int (ab_I b)), x8, ?_, hI, hz1, hz2⟩
    simp (discharger := first | assumption | exact True.intro | exact not_false | (refine ab_gK ?_; with_unfolding_all rfl) | exact ab_rgI (by omega) (by omega) | omega) only [e1, e2, ab_re_v hzz, e5, ab_e0_2031, ab_e0_2032, ab_e0_2033, ab_e0_2035, ab_e0_2036, ab_e0_2037, ab_e0_2038, ab_e0_2039, ab_e0_2042, ab_e0_2044, ab_e0_2045, ab_e0_2046, ab_e0_2048, ab_e0_2049, ab_e0_2050, ab_e0_2051, ab_e0_2054, ab_e0_2056, ab_e0_2057, ab_e0_2060, ab_e0_2062, ab_e0_2065, ab_e0_2066, ab_e0_2067, ab_e0_2069, ab_e0_2072, ab_e0_2073, ab_e0_2074, ab_e0_2075, ab_e0_2077, ab_e0_2078, ab_e0_2079, ab_e0_2082, ab_e0_2083, ab_e0_2084, ab_br_t, ab_br_f, ab_re_v (ab_zz _), ab_re_n (ab_zz _)]

theorem bb_c29 {K : ab_Kt} {D : Nat → Int → Int} {L : Nat → Int → Int64} {z : ab_Z} {n i : Int} (hn : n < 512) (h : bb_INV n D L z) (i0 : 0 ≤ i) (i5 : i + 5 ≤ (K.1 : Int)) (hK : (K.1 : Int) ≤ 3000) {x6 x7 x8 : Option Value} : bb_LW K n i D L z 2087 x6 x7 x8 := by
  have s1 := bb_K_rg K (i + 1)
  obtain ⟨c, hc, hcc⟩ := bb_i2c_ex (ab_I (bb_K K (i + 1)))
  obtain ⟨D1, L1, z1, D', k, b, e1, e2, k2, e7, eL, hI, hz1, hz2⟩ := bb_op26 (K := K) hn h hc.1 hc.2
  have e5 := bb_y5 (K := K) (D := D') (L := L1) (z := z1)
  rw [e7] at e5
  have hzz : z.2.2.2.2.2.1 ≤ z1.2.2.2.2.2.1 ∧ z.2.2.2.2.2.2 ≤ z1.2.2.2.2.2.2 := ⟨hz1, hz2⟩
  by_cases hk : k = 0
  · have eL' := eL hk
    subst hk
    refine ⟨D', L1, z1, some (.int (ab_I 0)), some (.int (ab_I b)), x8, ?_, hI, hz1, hz2⟩
    simp (discharger := first | assumption | exact True.intro | exact not_false | (refine ab_gK ?_; with_unfolding_all rfl) | exact ab_rgI (by omega) (by omega) | omega) only [e1, e2, ab_re_v hzz, e5, ab_e0_2094 hcc, ab_e0_2108 hcc, eL', bb_lg_self, ab_e0_2087, ab_e0_2088, ab_e0_2089, ab_e0_2091, ab_e0_2092, ab_e0_2093, ab_e0_2095, ab_e0_2096, ab_e0_2099, ab_e0_2101, ab_e0_2102, ab_e0_2103, ab_e0_2105, ab_e0_2106, ab_e0_2107, ab_e0_2109, ab_e0_2112, ab_e0_2114, ab_e0_2115, ab_e0_2118, ab_e0_2120, ab_e0_2123, ab_e0_2124, ab_e0_2125, ab_e0_2127, ab_e0_2130, ab_e0_2131, ab_e0_2132, ab_e0_2133, ab_e0_2135, ab_e0_2136, ab_e0_2137, ab_e0_2140, ab_e0_2141, ab_e0_2142, ab_br_t, ab_br_f, ab_re_v (ab_zz _), ab_re_n (ab_zz _)]
  · refine ⟨D', L1, z1, some (.int (ab_I k)), some (.int (ab_I b)), x8, ?_, hI, hz1, hz2⟩
    simp (discharger := first | assumption | exact True.intro | exact not_false | (refine ab_gK ?_; with_unfolding_all rfl) | exact ab_rgI (by omega) (by omega) | omega) only [e1, e2, ab_re_v hzz, e5, ab_e0_2094 hcc, ab_e0_2108 hcc, ab_e0_2087, ab_e0_2088, ab_e0_2089, ab_e0_2091, ab_e0_2092, ab_e0_2093, ab_e0_2095, ab_e0_2096, ab_e0_2099, ab_e0_2101, ab_e0_2102, ab_e0_2103, ab_e0_2105, ab_e0_2106, ab_e0_2107, ab_e0_2109, ab_e0_2112, ab_e0_2114, ab_e0_2115, ab_e0_2118, ab_e0_2120, ab_e0_2123, ab_e0_2124, ab_e0_2125, ab_e0_2127, ab_e0_2130, ab_e0_2131, ab_e0_2132, ab_e0_2133, ab_e0_2135, ab_e0_2136, ab_e0_2137, ab_e0_2140, ab_e0_2141, ab_e0_2142, ab_br_t, ab_br_f, ab_re_v (ab_zz _), ab_re_n (ab_zz _)]

theorem bb_c30 {K : ab_Kt} {D : Nat → Int → Int} {L : Nat → Int → Int64} {z : ab_Z} {n i : Int} (hn : n < 512) (h : bb_INV n D L z) (i0 : 0 ≤ i) (i5 : i + 5 ≤ (K.1 : Int)) (hK : (K.1 : Int) ≤ 3000) {x6 x7 x8 : Option Value} : bb_LW K n i D L z 2145 x6 x7 x8 := by
  obtain ⟨D1, L1, z1, D', k, b, e1, e2, k2, e7, eL, hI, hz1, hz2⟩ := bb_op24 (K := K) hn h 
  have e5 := bb_y5 (K := K) (D := D') (L := L1) (z := z1)
  rw [e7] at e5
  have hzz : z.2.2.2.2.2.1 ≤ z1.2.2.2.2.2.1 ∧ z.2.2.2.2.2.2 ≤ z1.2.2.2.2.2.2 := ⟨hz1, hz2⟩
  by_cases hk : k = 0
  · have eL' := eL hk
    subst hk
    refine ⟨D', L1, z1, some (.int (ab_I 0)), some (.int (ab_I b)), x8, ?_, hI, hz1, hz2⟩
    simp (discharger := first | assumption | exact True.intro | exact not_false | (refine ab_gK ?_; with_unfolding_all rfl) | exact ab_rgI (by omega) (by omega) | omega) only [e1, e2, ab_re_v hzz, e5, eL', bb_lg_self, ab_e0_2145, ab_e0_2146, ab_e0_2147, ab_e0_2150, ab_e0_2152, ab_e0_2153, ab_e0_2156, ab_e0_2158, ab_e0_2159, ab_e0_2162, ab_e0_2164, ab_e0_2167, ab_e0_2168, ab_e0_2169, ab_e0_2171, ab_e0_2174, ab_e0_2175, ab_e0_2176, ab_e0_2177, ab_e0_2179, ab_e0_2180, ab_e0_2181, ab_e0_2184, ab_e0_2185, ab_e0_2186, ab_br_t, ab_br_f, ab_re_v (ab_zz _), ab_re_n (ab_zz _)]
  · refine ⟨D', L1, z1, some (.int (ab_I k)), some (.int (ab_I b)), x8, ?_, hI, hz1, hz2⟩
    simp (discharger := first | assumption | exact True.intro | exact not_false | (refine ab_gK ?_; with_unfolding_all rfl) | exact ab_rgI (by omega) (by omega) | omega) only [e1, e2, ab_re_v hzz, e5, ab_e0_2145, ab_e0_2146, ab_e0_2147, ab_e0_2150, ab_e0_2152, ab_e0_2153, ab_e0_2156, ab_e0_2158, ab_e0_2159, ab_e0_2162, ab_e0_2164, ab_e0_2167, ab_e0_2168, ab_e0_2169, ab_e0_2171, ab_e0_2174, ab_e0_2175, ab_e0_2176, ab_e0_2177, ab_e0_2179, ab_e0_2180, ab_e0_2181, ab_e0_2184, ab_e0_2185, ab_e0_2186, ab_br_t, ab_br_f, ab_re_v (ab_zz _), ab_re_n (ab_zz _)]

theorem bb_c31 {K : ab_Kt} {D : Nat → Int → Int} {L : Nat → Int → Int64} {z : ab_Z} {n i : Int} (hn : n < 512) (h : bb_INV n D L z) (i0 : 0 ≤ i) (i5 : i + 5 ≤ (K.1 : Int)) (hK : (K.1 : Int) ≤ 3000) {x6 x7 x8 : Option Value} : bb_LW K n i D L z 2189 x6 x7 x8 := by
  obtain ⟨D1, L1, z1, D', b, e1, e2, hI, hz1, hz2⟩ := bb_op22 (K := K) hn h
  have hzz : z.2.2.2.2.2.1 ≤ z1.2.2.2.2.2.1 ∧ z.2.2.2.2.2.2 ≤ z1.2.2.2.2.2.2 := ⟨hz1, hz2⟩
  refine ⟨D', L1, z1, x6, x7, x8, ?_, hI, hz1, hz2⟩
  simp (discharger := first | assumption | exact True.intro | exact not_false | (refine ab_gK ?_; with_unfolding_all rfl) | exact ab_rgI (by omega) (by omega) | omega) only [e1, e2, ab_re_v hzz, ab_e0_2189, ab_e0_2190, ab_e0_2193, ab_e0_2194, bb_e0_2197, ab_e0_2200, ab_e0_2201, ab_br_t, ab_br_f, ab_re_v (ab_zz _), ab_re_n (ab_zz _)]
theorem bb_c32 {K : ab_Kt} {D : Nat → Int → Int} {L : Nat → Int → Int64} {z : ab_Z} {n i : Int} (hn : n < 512) (h : bb_INV n D L z) (i0 : 0 ≤ i) (i5 : i + 5 ≤ (K.1 : Int)) (hK : (K.1 : Int) ≤ 3000) {x6 x7 x8 : Option Value} : bb_LW K n i D L z 2202 x6 x7 x8 := by
  have s1 := bb_K_rg K (i + 1)
  obtain ⟨D1, L1, z1, D', k, b, e1, e2, k2, e7, eL, hI, hz1, hz2⟩ := bb_op20 (K := K) hn h (bb_K_rg K (i + 1))
  have e5 := bb_y5 (K := K) (D := D') (L := L1) (z := z1)
  rw [e7] at e5
  have hzz : z.2.2.2.2.2.1 ≤ z1.2.2.2.2.2.1 ∧ z.2.2.2.2.2.2 ≤ z1.2.2.2.2.2.2 := ⟨hz1, hz2⟩
  by_cases hk : k = 0
  · have eL' := eL hk
    subst hk
    refine ⟨D', L1, z1, some (.int (ab_I 0)), some (.int (ab_I b)), x8, ?_, hI, hz1, hz2⟩
    simp (discharger := first | assumption | exact True.intro | exact not_false | (refine ab_gK ?_; with_unfolding_all rfl) | exact ab_rgI (by omega) (by omega) | omega) only [e1, e2, ab_re_v hzz, e5, eL', bb_lg_self, ab_e0_2202, ab_e0_2203, ab_e0_2204, ab_e0_2206, ab_e0_2207, ab_e0_2208, ab_e0_2209, ab_e0_2210, ab_e0_2213, ab_e0_2215, ab_e0_2216, ab_e0_2217, ab_e0_2219, ab_e0_2220, ab_e0_2221, ab_e0_2222, ab_e0_2225, ab_e0_2227, ab_e0_2228, ab_e0_2231, ab_e0_2233, ab_e0_2236, ab_e0_2237, ab_e0_2238, ab_e0_2240, ab_e0_2243, ab_e0_2244, ab_e0_2245, ab_e0_2246, ab_e0_2248, ab_e0_2249, ab_e0_2250, ab_e0_2253, ab_e0_2254, ab_e0_2255, ab_br_t, ab_br_f, ab_re_v (ab_zz _), ab_re_n (ab_zz _)]
  · refine ⟨D', L1, z1, some (.int (ab_I k)), some (.int (ab_I b)), x8, ?_, hI, hz1, hz2⟩
    simp (discharger := first | assumption | exact True.intro | exact not_false | (refine ab_gK ?_; with_unfolding_all rfl) | exact ab_rgI (by omega) (by omega) | omega) only [e1, e2, ab_re_v hzz, e5, ab_e0_2202, ab_e0_2203, ab_e0_2204, ab_e0_2206, ab_e0_2207, ab_e0_2208, ab_e0_2209, ab_e0_2210, ab_e0_2213, ab_e0_2215, ab_e0_2216, ab_e0_2217, ab_e0_2219, ab_e0_2220, ab_e0_2221, ab_e0_2222, ab_e0_2225, ab_e0_2227, ab_e0_2228, ab_e0_2231, ab_e0_2233, ab_e0_2236, ab_e0_2237, ab_e0_2238, ab_e0_2240, ab_e0_2243, ab_e0_2244, ab_e0_2245, ab_e0_2246, ab_e0_2248, ab_e0_2249, ab_e0_2250, ab_e0_2253, ab_e0_2254, ab_e0_2255, ab_br_t, ab_br_f, ab_re_v (ab_zz _), ab_re_n (ab_zz _)]

theorem bb_c33 {K : ab_Kt} {D : Nat → Int → Int} {L : Nat → Int → Int64} {z : ab_Z} {n i : Int} (hn : n < 512) (h : bb_INV n D L z) (i0 : 0 ≤ i) (i5 : i + 5 ≤ (K.1 : Int)) (hK : (K.1 : Int) ≤ 3000) {x6 x7 x8 : Option Value} : bb_LW K n i D L z 2258 x6 x7 x8 := by
  have s1 := bb_K_rg K (i + 1)
  obtain ⟨D1, L1, z1, D', k, b, e1, e2, k2, e7, eL, hI, hz1, hz2⟩ := bb_op18 (K := K) hn h (bb_K_rg K (i + 1))
  have e5 := bb_y5 (K := K) (D := D') (L := L1) (z := z1)
  rw [e7] at e5
  have hzz : z.2.2.2.2.2.1 ≤ z1.2.2.2.2.2.1 ∧ z.2.2.2.2.2.2 ≤ z1.2.2.2.2.2.2 := ⟨hz1, hz2⟩
  by_cases hk : k = 0
  · have eL' := eL hk
    subst hk
    refine ⟨D', L1, z1, some (.int (ab_I 0)), some (.int (ab_I b)), x8, ?_, hI, hz1, hz2⟩
    simp (discharger := first | assumption | exact True.intro | exact not_false | (refine ab_gK ?_; with_unfolding_all rfl) | exact ab_rgI (by omega) (by omega) | omega) only [e1, e2, ab_re_v hzz, e5, eL', bb_lg_self, ab_e0_2258, ab_e0_2259, ab_e0_2260, ab_e0_2262, ab_e0_2263, ab_e0_2264, ab_e0_2265, ab_e0_2266, ab_e0_2269, ab_e0_2271, ab_e0_2272, ab_e0_2273, ab_e0_2275, ab_e0_2276, ab_e0_2277, ab_e0_2278, ab_e0_2281, ab_e0_2283, ab_e0_2284, ab_e0_2287, ab_e0_2289, ab_e0_2292, ab_e0_2293, ab_e0_2294, ab_e0_2296, ab_e0_2299, ab_e0_2300, ab_e0_2301, ab_e0_2302, ab_e0_2304, ab_e0_2305, ab_e0_2306, ab_e0_2309, ab_e0_2310, ab_e0_2311, ab_br_t, ab_br_f, ab_re_v (ab_zz _), ab_re_n (ab_zz _)]
  · refine ⟨D', L1, z1, some (.int (ab_I k)), some (.int (ab_I b)), x8, ?_, hI, hz1, hz2⟩
    simp (discharger := first | assumption | exact True.intro | exact not_false | (refine ab_gK ?_; with_unfolding_all rfl) | exact ab_rgI (by omega) (by omega) | omega) only [e1, e2, ab_re_v hzz, e5, ab_e0_2258, ab_e0_2259, ab_e0_2260, ab_e0_2262, ab_e0_2263, ab_e0_2264, ab_e0_2265, ab_e0_2266, ab_e0_2269, ab_e0_2271, ab_e0_2272, ab_e0_2273, ab_e0_2275, ab_e0_2276, ab_e0_2277, ab_e0_2278, ab_e0_2281, ab_e0_2283, ab_e0_2284, ab_e0_2287, ab_e0_2289, ab_e0_2292, ab_e0_2293, ab_e0_2294, ab_e0_2296, ab_e0_2299, ab_e0_2300, ab_e0_2301, ab_e0_2302, ab_e0_2304, ab_e0_2305, ab_e0_2306, ab_e0_2309, ab_e0_2310, ab_e0_2311, ab_br_t, ab_br_f, ab_re_v (ab_zz _), ab_re_n (ab_zz _)]

theorem bb_c34 {K : ab_Kt} {D : Nat → Int → Int} {L : Nat → Int → Int64} {z : ab_Z} {n i : Int} (hn : n < 512) (h : bb_INV n D L z) (i0 : 0 ≤ i) (i5 : i + 5 ≤ (K.1 : Int)) (hK : (K.1 : Int) ≤ 3000) {x6 x7 x8 : Option Value} : bb_LW K n i D L z 2314 x6 x7 x8 := by
  have s1 := bb_K_rg K (i + 1)
  obtain ⟨D1, L1, z1, D', k, b, e1, e2, k2, e7, eL, hI, hz1, hz2⟩ := bb_op16 (K := K) hn h (bb_K_rg K (i + 1))
  have e5 := bb_y5 (K := K) (D := D') (L := L1) (z := z1)
  rw [e7] at e5
  have hzz : z.2.2.2.2.2.1 ≤ z1.2.2.2.2.2.1 ∧ z.2.2.2.2.2.2 ≤ z1.2.2.2.2.2.2 := ⟨hz1, hz2⟩
  by_cases hk : k = 0
  · have eL' := eL hk
    subst hk
    refine ⟨D', L1, z1, some (.int (ab_I 0)), some (.int (ab_I b)), x8, ?_, hI, hz1, hz2⟩
    simp (discharger := first | assumption | exact True.intro | exact not_false | (refine ab_gK ?_; with_unfolding_all rfl) | exact ab_rgI (by omega) (by omega) | omega) only [e1, e2, ab_re_v hzz, e5, eL', bb_lg_self, ab_e0_2314, ab_e0_2315, ab_e0_2316, ab_e0_2318, ab_e0_2319, ab_e0_2320, ab_e0_2321, ab_e0_2322, ab_e0_2325, ab_e0_2327, ab_e0_2328, ab_e0_2329, ab_e0_2331, ab_e0_2332, ab_e0_2333, ab_e0_2334, ab_e0_2337, ab_e0_2339, ab_e0_2340, ab_e0_2343, ab_e0_2345, ab_e0_2348, ab_e0_2349, ab_e0_2350, ab_e0_2352, ab_e0_2355, ab_e0_2356, ab_e0_2357, ab_e0_2358, ab_e0_2360, ab_e0_2361, ab_e0_2362, ab_e0_2365, ab_e0_2366, ab_e0_2367, ab_br_t, ab_br_f, ab_re_v (ab_zz _), ab_re_n (ab_zz _)]
  · refine ⟨D', L1, z1, some (.int (ab_I k)), some (.int (ab_I b)), x8, ?_, hI, hz1, hz2⟩
    simp (discharger := first | assumption | exact True.intro | exact not_false | (refine ab_gK ?_; with_unfolding_all rfl) | exact ab_rgI (by omega) (by omega) | omega) only [e1, e2, ab_re_v hzz, e5, ab_e0_2314, ab_e0_2315, ab_e0_2316, ab_e0_2318, ab_e0_2319, ab_e0_2320, ab_e0_2321, ab_e0_2322, ab_e0_2325, ab_e0_2327, ab_e0_2328, ab_e0_2329, ab_e0_2331, ab_e0_2332, ab_e0_2333, ab_e0_2334, ab_e0_2337, ab_e0_2339, ab_e0_2340, ab_e0_2343, ab_e0_2345, ab_e0_2348, ab_e0_2349, ab_e0_2350, ab_e0_2352, ab_e0_2355, ab_e0_2356, ab_e0_2357, ab_e0_2358, ab_e0_2360, ab_e0_2361, ab_e0_2362, ab_e0_2365, ab_e0_2366, ab_e0_2367, ab_br_t, ab_br_f, ab_re_v (ab_zz _), ab_re_n (ab_zz _)]

theorem bb_c35 {K : ab_Kt} {D : Nat → Int → Int} {L : Nat → Int → Int64} {z : ab_Z} {n i : Int} (hn : n < 512) (h : bb_INV n D L z) (i0 : 0 ≤ i) (i5 : i + 5 ≤ (K.1 : Int)) (hK : (K.1 : Int) ≤ 3000) {x6 x7 x8 : Option Value} : bb_LW K n i D L z 2370 x6 x7 x8 := by
  have s1 := bb_K_rg K (i + 1)
  obtain ⟨D1, L1, z1, D', k, q, e1, e2, k2, e7, eL, hI, hz1, hz2⟩ := bb_op14 (K := K) hn h (bb_K_rg K (i + 1))
  have e5 := bb_y5 (K := K) (D := D') (L := L1) (z := z1)
  rw [e7] at e5
  have hzz : z.2.2.2.2.2.1 ≤ z1.2.2.2.2.2.1 ∧ z.2.2.2.2.2.2 ≤ z1.2.2.2.2.2.2 := ⟨hz1, hz2⟩
  by_cases hk : k = 0
  · obtain ⟨a1, a2, a3⟩ := eL hk
    subst hk
    refine ⟨D', L1, z1, some (.int (ab_I 0)), some (.float q), x8, ?_, hI, hz1, hz2⟩
    simp (discharger := first | assumption | exact True.intro | exact not_false | (refine ab_gK ?_; with_unfolding_all rfl) | exact ab_rgI (by omega) (by omega) | omega) only [e1, e2, ab_re_v hzz, e5, a1, ab_e0_2370, ab_e0_2371, ab_e0_2372, ab_e0_2374, ab_e0_2375, ab_e0_2376, ab_e0_2377, ab_e0_2379, ab_e0_2382, ab_e0_2384, ab_e0_2385, ab_e0_2386, ab_e0_2388, ab_e0_2389, ab_e0_2390, ab_e0_2391, ab_e0_2394, ab_e0_2396, ab_e0_2397, ab_e0_2400, ab_e0_2402, ab_e0_2405, ab_e0_2406, ab_e0_2407, ab_e0_2409, ab_e0_2412, ab_e0_2414, ab_e0_2415, ab_e0_2416, ab_e0_2418, ab_e0_2419, ab_e0_2420, ab_e0_2423, ab_e0_2425, ab_e0_2426, ab_e0_2427, ab_e0_2429, ab_e0_2430, ab_e0_2431, ab_e0_2432, ab_e0_2435, ab_e0_2437, ab_e0_2440, ab_e0_2443, ab_e0_2444, ab_e0_2445, ab_br_t, ab_br_f, ab_re_v (ab_zz _), ab_re_n (ab_zz _)]
  · refine ⟨D', L1, z1, some (.int (ab_I k)), some (.float q), x8, ?_, hI, hz1, hz2⟩
    simp (discharger := first | assumption | exact True.intro | exact not_false | (refine ab_gK ?_; with_unfolding_all rfl) | exact ab_rgI (by omega) (by omega) | omega) only [e1, e2, ab_re_v hzz, e5, ab_e0_2370, ab_e0_2371, ab_e0_2372, ab_e0_2374, ab_e0_2375, ab_e0_2376, ab_e0_2377, ab_e0_2379, ab_e0_2382, ab_e0_2384, ab_e0_2385, ab_e0_2386, ab_e0_2388, ab_e0_2389, ab_e0_2390, ab_e0_2391, ab_e0_2394, ab_e0_2396, ab_e0_2397, ab_e0_2400, ab_e0_2402, ab_e0_2405, ab_e0_2406, ab_e0_2407, ab_e0_2409, ab_e0_2412, ab_e0_2414, ab_e0_2415, ab_e0_2416, ab_e0_2418, ab_e0_2419, ab_e0_2420, ab_e0_2423, ab_e0_2425, ab_e0_2426, ab_e0_2427, ab_e0_2429, ab_e0_2430, ab_e0_2431, ab_e0_2432, ab_e0_2435, ab_e0_2437, ab_e0_2440, ab_e0_2443, ab_e0_2444, ab_e0_2445, ab_br_t, ab_br_f, ab_re_v (ab_zz _), ab_re_n (ab_zz _)]

theorem bb_c36 {K : ab_Kt} {D : Nat → Int → Int} {L : Nat → Int → Int64} {z : ab_Z} {n i : Int} (hn : n < 512) (h : bb_INV n D L z) (i0 : 0 ≤ i) (i5 : i + 5 ≤ (K.1 : Int)) (hK : (K.1 : Int) ≤ 3000) {x6 x7 x8 : Option Value} : bb_LW K n i D L z 2448 x6 x7 x8 := by
  obtain ⟨D1, L1, z1, D', k, q, e1, e2, k2, e7, eL, hI, hz1, hz2⟩ := bb_op12 (K := K) hn h 
  have e5 := bb_y5 (K := K) (D := D') (L := L1) (z := z1)
  rw [e7] at e5
  have hzz : z.2.2.2.2.2.1 ≤ z1.2.2.2.2.2.1 ∧ z.2.2.2.2.2.2 ≤ z1.2.2.2.2.2.2 := ⟨hz1, hz2⟩
  by_cases hk : k = 0
  · obtain ⟨a1, a2⟩ := eL hk
    subst hk
    refine ⟨D', L1, z1, some (.int (ab_I 0)), some (.double q), none, ?_, hI, hz1, hz2⟩
    simp (discharger := first | assumption | exact True.intro | exact not_false | (refine ab_gK ?_; with_unfolding_all rfl) | exact ab_rgI (by omega) (by omega) | omega) only [e1, e2, ab_re_v hzz, e5, a1, ab_e0_2448, ab_e0_2449, ab_e0_2451, ab_e0_2454, ab_e0_2456, ab_e0_2457, ab_e0_2460, ab_e0_2462, ab_e0_2463, ab_e0_2466, ab_e0_2468, ab_e0_2471, ab_e0_2472, ab_e0_2473, ab_e0_2475, ab_e0_2478, ab_e0_2480, ab_e0_2481, ab_e0_2482, ab_e0_2484, ab_e0_2485, ab_e0_2488, ab_e0_2490, ab_e0_2491, ab_e0_2492, ab_e0_2494, ab_e0_2495, ab_e0_2496, ab_e0_2497, ab_e0_2500, ab_e0_2502, ab_e0_2504, ab_e0_2505, ab_e0_2508, ab_e0_2509, ab_e0_2510, ab_br_t, ab_br_f, ab_re_v (ab_zz _), ab_re_n (ab_zz _)]
  · refine ⟨D', L1, z1, some (.int (ab_I k)), some (.double q), none, ?_, hI, hz1, hz2⟩
    simp (discharger := first | assumption | exact True.intro | exact not_false | (refine ab_gK ?_; with_unfolding_all rfl) | exact ab_rgI (by omega) (by omega) | omega) only [e1, e2, ab_re_v hzz, e5, ab_e0_2448, ab_e0_2449, ab_e0_2451, ab_e0_2454, ab_e0_2456, ab_e0_2457, ab_e0_2460, ab_e0_2462, ab_e0_2463, ab_e0_2466, ab_e0_2468, ab_e0_2471, ab_e0_2472, ab_e0_2473, ab_e0_2475, ab_e0_2478, ab_e0_2480, ab_e0_2481, ab_e0_2482, ab_e0_2484, ab_e0_2485, ab_e0_2488, ab_e0_2490, ab_e0_2491, ab_e0_2492, ab_e0_2494, ab_e0_2495, ab_e0_2496, ab_e0_2497, ab_e0_2500, ab_e0_2502, ab_e0_2504, ab_e0_2505, ab_e0_2508, ab_e0_2509, ab_e0_2510, ab_br_t, ab_br_f, ab_re_v (ab_zz _), ab_re_n (ab_zz _)]

theorem bb_c37 {K : ab_Kt} {D : Nat → Int → Int} {L : Nat → Int → Int64} {z : ab_Z} {n i : Int} (hn : n < 512) (h : bb_INV n D L z) (i0 : 0 ≤ i) (i5 : i + 5 ≤ (K.1 : Int)) (hK : (K.1 : Int) ≤ 3000) {x6 x7 x8 : Option Value} : bb_LW K n i D L z 2513 x6 x7 x8 := by
  have s1 := bb_K_rg K (i + 1)
  obtain ⟨D1, L1, z1, D', k, b, e1, e2, k2, e7, eL, hI, hz1, hz2⟩ := bb_op10 (K := K) hn h (bb_K_rg K (i + 1))
  have e5 := bb_y5 (K := K) (D := D') (L := L1) (z := z1)
  rw [e7] at e5
  have hzz : z.2.2.2.2.2.1 ≤ z1.2.2.2.2.2.1 ∧ z.2.2.2.2.2.2 ≤ z1.2.2.2.2.2.2 := ⟨hz1, hz2⟩
  by_cases hk : k = 0
  · have eL' := eL hk
    subst hk
    refine ⟨D', L1, z1, some (.int (ab_I 0)), some (.int (ab_I b)), x8, ?_, hI, hz1, hz2⟩
    simp (discharger := first | assumption | exact True.intro | exact not_false | (refine ab_gK ?_; with_unfolding_all rfl) | exact ab_rgI (by omega) (by omega) | omega) only [e1, e2, ab_re_v hzz, e5, eL', bb_lg_self, ab_e0_2513, ab_e0_2514, ab_e0_2515, ab_e0_2517, ab_e0_2518, ab_e0_2519, ab_e0_2520, ab_e0_2521, ab_e0_2524, ab_e0_2526, ab_e0_2527, ab_e0_2528, ab_e0_2530, ab_e0_2531, ab_e0_2532, ab_e0_2533, ab_e0_2536, ab_e0_2538, ab_e0_2539, ab_e0_2542, ab_e0_2544, ab_e0_2547, ab_e0_2548, ab_e0_2549, ab_e0_2551, ab_e0_2554, ab_e0_2555, ab_e0_2556, ab_e0_2557, ab_e0_2559, ab_e0_2560, ab_e0_2561, ab_e0_2564, ab_e0_2565, ab_e0_2566, ab_br_t, ab_br_f, ab_re_v (ab_zz _), ab_re_n (ab_zz _)]
  · refine ⟨D', L1, z1, some (.int (ab_I k)), some (.int (ab_I b)), x8, ?_, hI, hz1, hz2⟩
    simp (discharger := first | assumption | exact True.intro | exact not_false | (refine ab_gK ?_; with_unfolding_all rfl) | exact ab_rgI (by omega) (by omega) | omega) only [e1, e2, ab_re_v hzz, e5, ab_e0_2513, ab_e0_2514, ab_e0_2515, ab_e0_2517, ab_e0_2518, ab_e0_2519, ab_e0_2520, ab_e0_2521, ab_e0_2524, ab_e0_2526, ab_e0_2527, ab_e0_2528, ab_e0_2530, ab_e0_2531, ab_e0_2532, ab_e0_2533, ab_e0_2536, ab_e0_2538, ab_e0_2539, ab_e0_2542, ab_e0_2544, ab_e0_2547, ab_e0_2548, ab_e0_2549, ab_e0_2551, ab_e0_2554, ab_e0_2555, ab_e0_2556, ab_e0_2557, ab_e0_2559, ab_e0_2560, ab_e0_2561, ab_e0_2564, ab_e0_2565, ab_e0_2566, ab_br_t, ab_br_f, ab_re_v (ab_zz _), ab_re_n (ab_zz _)]

theorem bb_c38 {K : ab_Kt} {D : Nat → Int → Int} {L : Nat → Int → Int64} {z : ab_Z} {n i : Int} (hn : n < 512) (h : bb_INV n D L z) (i0 : 0 ≤ i) (i5 : i + 5 ≤ (K.1 : Int)) (hK : (K.1 : Int) ≤ 3000) {x6 x7 x8 : Option Value} : bb_LW K n i D L z 2569 x6 x7 x8 := by
  obtain ⟨D1, L1, z1, D', k, b, e1, e2, k2, e7, eL, hI, hz1, hz2⟩ := bb_op8 (K := K) hn h 
  have e5 := bb_y5 (K := K) (D := D') (L := L1) (z := z1)
  rw [e7] at e5
  have hzz : z.2.2.2.2.2.1 ≤ z1.2.2.2.2.2.1 ∧ z.2.2.2.2.2.2 ≤ z1.2.2.2.2.2.2 := ⟨hz1, hz2⟩
  by_cases hk : k = 0
  · have eL' := eL hk
    subst hk
    refine ⟨D', L1, z1, some (.int (ab_I 0)), some (.int (ab_I b)), x8, ?_, hI, hz1, hz2⟩
    simp (discharger := first | assumption | exact True.intro | exact not_false | (refine ab_gK ?_; with_unfolding_all rfl) | exact ab_rgI (by omega) (by omega) | omega) only [e1, e2, ab_re_v hzz, e5, eL', bb_lg_self, ab_e0_2569, ab_e0_2570, ab_e0_2571, ab_e0_2574, ab_e0_2576, ab_e0_2577, ab_e0_2580, ab_e0_2582, ab_e0_2583, ab_e0_2586, ab_e0_2588, ab_e0_2591, ab_e0_2592, ab_e0_2593, ab_e0_2595, ab_e0_2598, ab_e0_2599, ab_e0_2600, ab_e0_2601, ab_e0_2603, ab_e0_2604, ab_e0_2605, ab_e0_2608, ab_e0_2609, ab_e0_2610, ab_br_t, ab_br_f, ab_re_v (ab_zz _), ab_re_n (ab_zz _)]
  · refine ⟨D', L1, z1, some (.int (ab_I k)), some (.int (ab_I b)), x8, ?_, hI, hz1, hz2⟩
    simp (discharger := first | assumption | exact True.intro | exact not_false | (refine ab_gK ?_; with_unfolding_all rfl) | exact ab_rgI (by omega) (by omega) | omega) only [e1, e2, ab_re_v hzz, e5, ab_e0_2569, ab_e0_2570, ab_e0_2571, ab_e0_2574, ab_e0_2576, ab_e0_2577, ab_e0_2580, ab_e0_2582, ab_e0_2583, ab_e0_2586, ab_e0_2588, ab_e0_2591, ab_e0_2592, ab_e0_2593, ab_e0_2595, ab_e0_2598, ab_e0_2599, ab_e0_2600, ab_e0_2601, ab_e0_2603, ab_e0_2604, ab_e0_2605, ab_e0_2608, ab_e0_2609, ab_e0_2610, ab_br_t, ab_br_f, ab_re_v (ab_zz _), ab_re_n (ab_zz _)]

theorem bb_c39 {K : ab_Kt} {D : Nat → Int → Int} {L : Nat → Int → Int64} {z : ab_Z} {n i : Int} (hn : n < 512) (h : bb_INV n D L z) (i0 : 0 ≤ i) (i5 : i + 5 ≤ (K.1 : Int)) (hK : (K.1 : Int) ≤ 3000) {x6 x7 x8 : Option Value} : bb_LW K n i D L z 2613 x6 x7 x8 := by
  obtain ⟨D1, L1, z1, D', b, e1, e2, hI, hz1, hz2⟩ := bb_op6 (K := K) hn h
  have hzz : z.2.2.2.2.2.1 ≤ z1.2.2.2.2.2.1 ∧ z.2.2.2.2.2.2 ≤ z1.2.2.2.2.2.2 := ⟨hz1, hz2⟩
  refine ⟨D', L1, z1, x6, x7, x8, ?_, hI, hz1, hz2⟩
  simp (discharger := first | assumption | exact True.intro | exact not_false | (refine ab_gK ?_; with_unfolding_all rfl) | exact ab_rgI (by omega) (by omega) | omega) only [e1, e2, ab_re_v hzz, ab_e0_2613, ab_e0_2614, ab_e0_2617, ab_e0_2618, bb_e0_2621, ab_e0_2624, ab_e0_2625, ab_br_t, ab_br_f, ab_re_v (ab_zz _), ab_re_n (ab_zz _)]
theorem bb_c40 {K : ab_Kt} {D : Nat → Int → Int} {L : Nat → Int → Int64} {z : ab_Z} {n i : Int} (hn : n < 512) (h : bb_INV n D L z) (i0 : 0 ≤ i) (i5 : i + 5 ≤ (K.1 : Int)) (hK : (K.1 : Int) ≤ 3000) {x6 x7 x8 : Option Value} : bb_LW K n i D L z 2626 x6 x7 x8 := by
  obtain ⟨D1, L1, z1, D', k, b, e1, e2, k2, e7, eL, hI, hz1, hz2⟩ := bb_op3 (K := K) hn h 
  have e5 := bb_y5 (K := K) (D := D') (L := L1) (z := z1)
  rw [e7] at e5
  have hzz : z.2.2.2.2.2.1 ≤ z1.2.2.2.2.2.1 ∧ z.2.2.2.2.2.2 ≤ z1.2.2.2.2.2.2 := ⟨hz1, hz2⟩
  by_cases hk : k = 0
  · have eL' := eL hk
    subst hk
    refine ⟨D', L1, z1, some (.int (ab_I 0)), some (.int (ab_I b)), x8, ?_, hI, hz1, hz2⟩
    simp (discharger := first | assumption | exact True.intro | exact not_false | (refine ab_gK ?_; with_unfolding_all rfl) | exact ab_rgI (by omega) (by omega) | omega) only [e1, e2, ab_re_v hzz, e5, eL', bb_lg_self, ab_e0_2626, ab_e0_2627, ab_e0_2628, ab_e0_2631, ab_e0_2633, ab_e0_2634, ab_e0_2637, ab_e0_2639, ab_e0_2640, ab_e0_2643, ab_e0_2645, ab_e0_2648, ab_e0_2649, ab_e0_2650, ab_e0_2652, ab_e0_2655, ab_e0_2656, ab_e0_2657, ab_e0_2658, ab_e0_2660, ab_e0_2661, ab_e0_2662, ab_e0_2665, ab_e0_2666, ab_e0_2667, ab_br_t, ab_br_f, ab_re_v (ab_zz _), ab_re_n (ab_zz _)]
  · refine ⟨D', L1, z1, some (.int (ab_I k)), some (.int (ab_I b)), x8, ?_, hI, hz1, hz2⟩
    simp (discharger := first | assumption | exact True.intro | exact not_false | (refine ab_gK ?_; with_unfolding_all rfl) | exact ab_rgI (by omega) (by omega) | omega) only [e1, e2, ab_re_v hzz, e5, ab_e0_2626, ab_e0_2627, ab_e0_2628, ab_e0_2631, ab_e0_2633, ab_e0_2634, ab_e0_2637, ab_e0_2639, ab_e0_2640, ab_e0_2643, ab_e0_2645, ab_e0_2648, ab_e0_2649, ab_e0_2650, ab_e0_2652, ab_e0_2655, ab_e0_2656, ab_e0_2657, ab_e0_2658, ab_e0_2660, ab_e0_2661, ab_e0_2662, ab_e0_2665, ab_e0_2666, ab_e0_2667, ab_br_t, ab_br_f, ab_re_v (ab_zz _), ab_re_n (ab_zz _)]

