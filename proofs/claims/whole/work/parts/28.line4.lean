/-! ===== the line's row: the builder's methods ===== -/
section
variable {K : ab_Kt} {D : Nat → Int → Int} {L : Nat → Int → Int64} {z : ab_Z}
theorem bb_sv_ne {z : ab_Z} (h : bb_sv z) : 497 ≠ z.1 := by have := h.1; omega
theorem bb_y237 {x : Int} {l : List Int} (hS : bb_SB D z) (hl9 : bb_ct (D z.1) (D 497 3) l) (h0 : 0 ≤ x) (h1 : x < 200) (h2 : l.length ≤ 300) : ∃ D' z', ab_cal K 237 [.ref 497, .int (ab_I x)] (ab_mk D L z) = some (.inl (some (.ref 497)), ab_mk D' L z') ∧ bb_SB D' z' ∧ bb_ct (D' z'.1) (D' 497 3) (l ++ bb_dg x) ∧ bb_LF D z D' z' := by
  obtain ⟨hz, hc, hn, hl⟩ := bb_SB_c hS
  have hs10 : 1 ≤ bb_s10 x ∧ bb_s10 x ≤ 3 := by unfold bb_s10; omega
  have hlen := hl9.1
  obtain ⟨D1, z1, e1, hS1, hm, h497, hcont, hLF⟩ := bb_y265 (K := K) (L := L) hS (m := D 497 3 + bb_s10 x) (by omega) (by omega)
  obtain ⟨hz1, hc1, hn1, hl1⟩ := bb_SB_c hS1
  obtain ⟨D2, e2, hrow, hout, hin⟩ := bb_y268 (K := K) (L := L) hS1 (idx := D 497 3 + bb_s10 x) h0 h1 (by omega) hm
  have hle : z.2.2.2.2.2.1 ≤ z1.2.2.2.2.2.1 ∧ z.2.2.2.2.2.2 ≤ z1.2.2.2.2.2.2 := ⟨hLF.2.2.1, hLF.2.2.2.1⟩
  have hne := bb_sv_ne hz1
  have hdl := bb_dg_len x
  refine ⟨ab_u D2 497 3 (D 497 3 + bb_s10 x), z1, ?_, ⟨hz1, ?_, ?_, fun j j0 j1 => ?_⟩, ?_, fun i i1 i2 i3 => ?_, hLF.2⟩
  · simp (discharger := first | assumption | exact True.intro | exact not_false | (refine ab_gK ?_; with_unfolding_all rfl) | exact ab_rgI (by omega) (by omega) | omega) only [ab_a237, bb_y267, bb_y266, e1, e2, ab_re_n hle, ab_e237_0, ab_e237_1, ab_e237_4, ab_e237_5, ab_e237_6, ab_e237_7, ab_e237_10, ab_e237_11, ab_e237_12, ab_e237_13, ab_e237_14, ab_e237_17, ab_e237_18, ab_e237_21, ab_e237_24, ab_e237_25, ab_e237_26, ab_e237_27, ab_e237_30, ab_e237_33, ab_e237_34, ab_e237_37, ab_e237_38, ab_e237_39, ab_e237_40, ab_e237_41, ab_e237_48, ab_e237_49, ab_e237_50, ab_e237_53, ab_e237_54, ab_br_t, ab_br_f, ab_re_v (ab_zz _), ab_re_n (ab_zz _)]
  · rw [ab_u_ne (.inr (by decide)), hrow _ hne]; exact hc1
  · rw [ab_u_eq]; omega
  · rw [ab_u_row (fun x => hne x.symm)]
    by_cases hj : j < D 497 3 ∨ D 497 3 + bb_s10 x ≤ j
    · rw [hout j (by omega)]
      exact hS1.2.2.2 j j0 j1
    · have hk := hin (j - D 497 3).toNat (by omega)
      rw [show D 497 3 + bb_s10 x - bb_s10 x + ((j - D 497 3).toNat : Int) = j by omega] at hk
      rw [hk]
      have hlt : (j - D 497 3).toNat < (bb_dg x).length := by omega
      rw [List.getD_eq_getElem?_getD, List.getElem?_eq_getElem hlt]
      exact bb_dg_rg h0 (by omega) _ (List.getElem_mem hlt)
  · rw [ab_u_row (fun x => hne x.symm), ab_u_eq]
    refine bb_ct_app hl9 (by omega) (fun j j0 j1 => ?_) (fun t ht => ?_)
    · rw [hout j (by omega), hcont j j0 (by omega)]
    · have hk := hin t ht
      rw [show D 497 3 + bb_s10 x - bb_s10 x + (t : Int) = D 497 3 + t by omega] at hk
      exact hk
  · rw [ab_u_row i2]
    have hi : i ≠ z1.1 := by have := hz1.1; omega
    rw [hrow i hi, hLF.1 i i1 i2 i3]
theorem bb_y238 {x : Int} {l : List Int} (hS : bb_SB D z) (hl9 : bb_ct (D z.1) (D 497 3) l) (h0 : 0 ≤ x) (h1 : x < 128) (h2 : l.length ≤ 300) : ∃ D' z', ab_cal K 238 [.ref 497, .int (ab_I x)] (ab_mk D L z) = some (.inl (some (.ref 497)), ab_mk D' L z') ∧ bb_SB D' z' ∧ bb_ct (D' z'.1) (D' 497 3) (l ++ [x]) ∧ bb_LF D z D' z' := by
  obtain ⟨hz, hc, hn, hl⟩ := bb_SB_c hS
  have hlen := hl9.1
  obtain ⟨D1, z1, e1, hS1, hm, h497, hcont, hLF⟩ := bb_y265 (K := K) (L := L) hS (m := D 497 3 + 1) (by omega) (by omega)
  obtain ⟨hz1, hc1, hn1, hl1⟩ := bb_SB_c hS1
  have hle : z.2.2.2.2.2.1 ≤ z1.2.2.2.2.2.1 ∧ z.2.2.2.2.2.2 ≤ z1.2.2.2.2.2.2 := ⟨hLF.2.2.1, hLF.2.2.2.1⟩
  have hne := bb_sv_ne hz1
  refine ⟨ab_u (ab_u D1 497 3 (D 497 3 + 1)) z1.1 (D 497 3) x, z1, ?_, ⟨hz1, ?_, ?_, fun j j0 j1 => ?_⟩, ?_, fun i i1 i2 i3 => ?_, hLF.2⟩
  · simp (discharger := first | assumption | exact True.intro | exact not_false | (refine ab_gK ?_; with_unfolding_all rfl) | exact ab_rgI (by omega) (by omega) | omega) only [ab_a238, bb_y269, bb_y266, e1, ab_re_n hle, h497, ab_e238_0, ab_e238_1, ab_e238_2, ab_e238_5, ab_e238_6, ab_e238_7, ab_e238_10, ab_e238_11, ab_e238_14, ab_e238_17, ab_e238_18, ab_e238_21, ab_e238_24, ab_e238_25, ab_e238_28, ab_e238_29, ab_e238_30, ab_e238_33, ab_e238_34, ab_e238_35, ab_e238_36, ab_e238_39, bb_e238_40, bb_e238_41, ab_e238_42, ab_e238_45, ab_e238_46, ab_e238_49, ab_e238_52, ab_e238_56, ab_e238_57, ab_e238_60, ab_e238_61, ab_e238_62, ab_e238_65, ab_e238_66, ab_e238_67, ab_e238_68, ab_e238_71, ab_e238_75, ab_e238_76, ab_br_t, ab_br_f, ab_re_v (ab_zz _), ab_re_n (ab_zz _)]
  · rw [ab_u_row hne, ab_u_ne (.inr (by decide))]; exact hc1
  · rw [ab_u_row hne, ab_u_eq]; omega
  · rw [ab_u_if]
    split
    · omega
    · rw [ab_u_row (fun x => hne x.symm)]
      exact hS1.2.2.2 j j0 j1
  · have e3 : ab_u (ab_u D1 497 3 (D 497 3 + 1)) z1.1 (D 497 3) x 497 3 = D 497 3 + 1 := by rw [ab_u_row hne, ab_u_eq]
    rw [e3]
    refine bb_ct_push hl9 rfl (fun j j0 j1 => ?_) ?_
    · rw [ab_u_ne (.inr (by omega)), ab_u_row (fun x => hne x.symm), hcont j j0 (by omega)]
    · rw [ab_u_eq]
  · have hi : i ≠ z1.1 := by have := hz1.1; omega
    rw [ab_u_row hi, ab_u_row i2, hLF.1 i i1 i2 i3]
theorem bb_y236 (hS : bb_SB D z) : ∃ D', ab_cal K 236 [.ref 497, .int (ab_I 0)] (ab_mk D L z) = some (.inl none, ab_mk D' L z) ∧ bb_SB D' z ∧ bb_ct (D' z.1) (D' 497 3) [] ∧ bb_LF D z D' z := by
  obtain ⟨hz, hc, hn, hl⟩ := bb_SB_c hS
  have hne := bb_sv_ne hz
  have e1 : ab_cal K 265 [.ref 497, .int (ab_I 0)] (ab_mk D L z) = some (.inl none, (ab_mk D L z)) := by
    simp (discharger := first | assumption | exact True.intro | exact not_false | (refine ab_gK ?_; with_unfolding_all rfl) | exact ab_rgI (by omega) (by omega) | omega) only [ab_a265, ab_e265_0, ab_e265_1, bb_e265_4, ab_e265_5, ab_e265_6, bb_e265_9, ab_e265_10, ab_e265_11, ab_e265_12, ab_e265_13, ab_e265_14, ab_e265_17, ab_e265_18, ab_e265_19, ab_e265_22, ab_e265_23, ab_e265_24, ab_e265_27, ab_e265_28, bb_e265_31, ab_e265_32, ab_e265_38, ab_br_t, ab_br_f, ab_re_v (ab_zz _), ab_re_n (ab_zz _)]
  by_cases h : 0 < D 497 3
  · refine ⟨ab_u (ab_u D 497 2 1) 497 3 0, ?_, ⟨hz, ?_, ?_, fun j j0 j1 => ?_⟩, ⟨?_, fun j hj => absurd hj (Nat.not_lt_zero _)⟩, fun i i1 i2 i3 => ?_, rfl, Nat.le_refl _, Nat.le_refl _, Nat.le_refl _, Nat.le_refl _⟩
    · simp (discharger := first | assumption | exact True.intro | exact not_false | (refine ab_gK ?_; with_unfolding_all rfl) | exact ab_rgI (by omega) (by omega) | omega) only [ab_a236, e1, ab_e236_0, ab_e236_1, ab_e236_13, ab_e236_14, ab_e236_15, ab_e236_18, ab_e236_19, ab_e236_22, ab_e236_23, ab_e236_26, ab_e236_27, ab_e236_30, ab_e236_33, ab_e236_34, ab_e236_37, ab_e236_38, ab_e236_41, ab_e236_48, ab_e236_49, ab_e236_52, ab_e236_53, ab_e236_56, ab_e236_63, ab_e236_64, ab_e236_67, ab_e236_68, ab_e236_71, ab_e236_72, ab_e236_73, ab_e236_76, ab_e236_77, ab_e236_78, ab_e236_81, ab_br_t, ab_br_f, ab_re_v (ab_zz _), ab_re_n (ab_zz _)]
    · rw [ab_u_ne (.inr (by decide)), ab_u_ne (.inr (by decide))]; exact hc
    · rw [ab_u_eq]; omega
    · rw [ab_u_row (fun x => hne x.symm), ab_u_row (fun x => hne x.symm)]; exact hS.2.2.2 j j0 j1
    · rw [ab_u_eq]; rfl
    · rw [ab_u_row i2, ab_u_row i2]
  · refine ⟨ab_u D 497 3 0, ?_, ⟨hz, ?_, ?_, fun j j0 j1 => ?_⟩, ⟨?_, fun j hj => absurd hj (Nat.not_lt_zero _)⟩, fun i i1 i2 i3 => ?_, rfl, Nat.le_refl _, Nat.le_refl _, Nat.le_refl _, Nat.le_refl _⟩
    · simp (discharger := first | assumption | exact True.intro | exact not_false | (refine ab_gK ?_; with_unfolding_all rfl) | exact ab_rgI (by omega) (by omega) | omega) only [ab_a236, e1, ab_e236_0, ab_e236_1, ab_e236_13, ab_e236_14, ab_e236_15, ab_e236_18, ab_e236_19, ab_e236_22, ab_e236_23, ab_e236_26, ab_e236_27, ab_e236_30, ab_e236_33, ab_e236_34, ab_e236_37, ab_e236_38, ab_e236_41, ab_e236_48, ab_e236_49, ab_e236_52, ab_e236_53, ab_e236_56, ab_e236_63, ab_e236_64, ab_e236_67, ab_e236_68, ab_e236_71, ab_e236_72, ab_e236_73, ab_e236_76, ab_e236_77, ab_e236_78, ab_e236_81, ab_br_t, ab_br_f, ab_re_v (ab_zz _), ab_re_n (ab_zz _)]
    · rw [ab_u_ne (.inr (by decide))]; exact hc
    · rw [ab_u_eq]; omega
    · rw [ab_u_row (fun x => hne x.symm)]; exact hS.2.2.2 j j0 j1
    · rw [ab_u_eq]; rfl
    · rw [ab_u_row i2]
theorem bb_y188 {x : Int} {l : List Int} (hS : bb_SB D z) (hl9 : bb_ct (D z.1) (D 497 3) l) (h0 : 0 ≤ x) (h1 : x < 200) (h2 : l.length ≤ 300) : ∃ D' z', ab_cal K 188 [.ref 497, .int (ab_I x)] (ab_mk D L z) = some (.inl (some (.ref 497)), ab_mk D' L z') ∧ bb_SB D' z' ∧ bb_ct (D' z'.1) (D' 497 3) (l ++ bb_dg x) ∧ bb_LF D z D' z' := by
  obtain ⟨D1, z1, e1, hS1, hct, hLF⟩ := bb_y237 (K := K) (L := L) hS hl9 h0 h1 h2
  have hle : z.2.2.2.2.2.1 ≤ z1.2.2.2.2.2.1 ∧ z.2.2.2.2.2.2 ≤ z1.2.2.2.2.2.2 := ⟨hLF.2.2.1, hLF.2.2.2.1⟩
  refine ⟨D1, z1, ?_, hS1, hct, hLF⟩
  simp (discharger := first | assumption | exact True.intro | exact not_false | (refine ab_gK ?_; with_unfolding_all rfl) | exact ab_rgI (by omega) (by omega) | omega) only [ab_a188, e1, ab_re_v hle, ab_e188_0, ab_e188_1, ab_e188_2, ab_e188_5, ab_e188_6, ab_e188_7, ab_br_t, ab_br_f, ab_re_v (ab_zz _), ab_re_n (ab_zz _)]

theorem bb_y189 {x : Int} {l : List Int} (hS : bb_SB D z) (hl9 : bb_ct (D z.1) (D 497 3) l) (h0 : 0 ≤ x) (h1 : x < 128) (h2 : l.length ≤ 300) : ∃ D' z', ab_cal K 189 [.ref 497, .int (ab_I x)] (ab_mk D L z) = some (.inl (some (.ref 497)), ab_mk D' L z') ∧ bb_SB D' z' ∧ bb_ct (D' z'.1) (D' 497 3) (l ++ [x]) ∧ bb_LF D z D' z' := by
  obtain ⟨D1, z1, e1, hS1, hct, hLF⟩ := bb_y238 (K := K) (L := L) hS hl9 h0 h1 h2
  have hle : z.2.2.2.2.2.1 ≤ z1.2.2.2.2.2.1 ∧ z.2.2.2.2.2.2 ≤ z1.2.2.2.2.2.2 := ⟨hLF.2.2.1, hLF.2.2.2.1⟩
  refine ⟨D1, z1, ?_, hS1, hct, hLF⟩
  simp (discharger := first | assumption | exact True.intro | exact not_false | (refine ab_gK ?_; with_unfolding_all rfl) | exact ab_rgI (by omega) (by omega) | omega) only [ab_a189, e1, ab_re_v hle, ab_e189_0, ab_e189_1, ab_e189_2, ab_e189_5, ab_e189_6, ab_e189_7, ab_br_t, ab_br_f, ab_re_v (ab_zz _), ab_re_n (ab_zz _)]

theorem bb_y187 (hS : bb_SB D z) : ∃ D', ab_cal K 187 [.ref 497, .int (ab_I 0)] (ab_mk D L z) = some (.inl none, ab_mk D' L z) ∧ bb_SB D' z ∧ bb_ct (D' z.1) (D' 497 3) [] ∧ bb_LF D z D' z := by
  obtain ⟨D1, e1, hS1, hct, hLF⟩ := bb_y236 (K := K) (L := L) hS
  refine ⟨D1, ?_, hS1, hct, hLF⟩
  simp (discharger := first | assumption | exact True.intro | exact not_false | (refine ab_gK ?_; with_unfolding_all rfl) | exact ab_rgI (by omega) (by omega) | omega) only [ab_a187, e1, ab_e187_0, ab_e187_1, ab_e187_2, ab_e187_5, ab_br_t, ab_br_f, ab_re_v (ab_zz _), ab_re_n (ab_zz _)]

theorem bb_y185 : ab_cal K 185 [.ref 497] (ab_mk D L z) = some (.inl (some (.int (ab_I (D 497 3)))), (ab_mk D L z)) := by
  simp (discharger := first | assumption | exact True.intro | exact not_false | (refine ab_gK ?_; with_unfolding_all rfl) | exact ab_rgI (by omega) (by omega) | omega) only [ab_a185, ab_a234, ab_e185_0, ab_e185_1, ab_e185_4, ab_e234_0, ab_e234_1, ab_e234_4, ab_br_t, ab_br_f, ab_re_v (ab_zz _), ab_re_n (ab_zz _)]

theorem bb_y186 (hS : bb_SB D z) {i : Int} (h0 : 0 ≤ i) (h1 : i < D 497 3) : ab_cal K 186 [.ref 497, .int (ab_I i)] (ab_mk D L z) = some (.inl (some (.int (ab_I (D z.1 i)))), (ab_mk D L z)) := by
  obtain ⟨hz, hc, hn, hl⟩ := bb_SB_c hS
  have hv := hS.2.2.2 i h0 (by omega)
  have hmin : min (D 497 3) (z.2.1 : Nat) = D 497 3 := by omega
  simp (discharger := first | assumption | exact True.intro | exact not_false | (refine ab_gK ?_; with_unfolding_all rfl) | exact ab_rgI (by omega) (by omega) | omega) only [ab_a186, ab_a235, bb_y264, hmin, ab_e186_0, ab_e186_1, ab_e186_2, ab_e186_5, ab_e235_0, ab_e235_1, ab_e235_4, ab_e235_5, ab_e235_6, ab_e235_9, ab_e235_10, ab_e235_11, ab_e235_14, bb_e235_15, ab_e235_16, bb_e235_17, ab_e235_18, ab_e235_21, ab_e235_23, ab_e235_24, ab_e235_26, ab_e235_29, ab_e235_30, ab_e235_33, ab_e235_34, bb_e235_35, ab_e235_36, bb_e235_39, bb_e235_40, ab_e235_41, ab_e235_42, ab_e235_43, ab_br_t, ab_br_f, ab_re_v (ab_zz _), ab_re_n (ab_zz _)]

end
