/-! ===== the model's changes are these ===== -/
def bb_HK (D : Nat → Int → Int) : Prop := (0 ≤ D 500 5 ∧ D 500 5 ≤ 8) ∧ (D 500 6 = 0 ∨ D 500 6 = 1)
theorem bb_keep_501 {D : Nat → Int → Int} {a : Nat} : bb_keep D a 501 = D 501 := by
  unfold bb_keep
  split
  · exact ab_u_row (by decide)
  · rw [bb_row_ne (by decide), ab_u_row (by decide), ab_u_row (by decide)]
theorem bb_sw_s {g : Int → Int} {e s o j w : Int} (s0 : 0 ≤ s) (s1 : s < 12) (o0 : 0 ≤ o) (o1 : o < 12) (j0 : 0 ≤ j) (j1 : j < 12) (w0 : 0 ≤ w) (w1 : w < 3) : bb_R (bb_sw g e s o) e (7 + 3 * j + w) = bb_R g e (7 + 3 * (if j = o then s else if j = s then o else j) + w) := by
  unfold bb_sw
  have hw : w = 0 ∨ w = 1 ∨ w = 2 := by omega
  by_cases hj : j = o
  · subst hj
    have h := bb_gp_at (g := bb_gp g e s (bb_R g e (7 + 3 * j + 0)) (bb_R g e (7 + 3 * j + 1)) (bb_R g e (7 + 3 * j + 2))) (e := e) (s := j) (f := bb_R g e (7 + 3 * s + 0)) (fo := bb_R g e (7 + 3 * s + 1)) (t := bb_R g e (7 + 3 * s + 2))
    rw [if_pos rfl]
    rcases hw with rfl | rfl | rfl
    · exact h.1
    · exact h.2.1
    · exact h.2.2
  · rw [if_neg hj, bb_gp_R (by omega) (by omega) o0 o1 (.inr (by omega))]
    by_cases hs : j = s
    · subst hs
      have h := bb_gp_at (g := g) (e := e) (s := j) (f := bb_R g e (7 + 3 * o + 0)) (fo := bb_R g e (7 + 3 * o + 1)) (t := bb_R g e (7 + 3 * o + 2))
      rw [if_pos rfl]
      rcases hw with rfl | rfl | rfl
      · exact h.1
      · exact h.2.1
      · exact h.2.2
    · rw [if_neg hs, bb_gp_R (by omega) (by omega) s0 s1 (.inr (by omega))]
theorem bb_sw_ne {g : Int → Int} {e s o k : Int} (s0 : 0 ≤ s) (s1 : s < 12) (o0 : 0 ≤ o) (o1 : o < 12) (h : k < 16 + 51 * e + 7 ∨ 16 + 51 * e + 43 ≤ k) : bb_sw g e s o k = g k := by
  unfold bb_sw
  rw [bb_gp_ne (by omega), bb_gp_ne (by omega)]
theorem bb_sw_mv {g : Int → Int} {e p s o : Int} (s0 : 0 ≤ s) (s1 : s < 12) (o0 : 0 ≤ o) (o1 : o < 12) (p0 : 0 ≤ p) (p1 : p < 12) (h : (p ≤ s ∧ o = s + 1) ∨ (s ≤ p ∧ o = s - 1)) : bb_sw (bb_mv g e p s) e s o = bb_mv g e p o := by
  funext k
  by_cases hk : k < 16 + 51 * e + 7 ∨ 16 + 51 * e + 43 ≤ k
  · rw [bb_sw_ne s0 s1 o0 o1 hk, bb_mv_ne hk, bb_mv_ne hk]
  · have hj : ∃ j w : Int, 0 ≤ j ∧ j < 12 ∧ 0 ≤ w ∧ w < 3 ∧ k = 16 + 51 * e + (7 + 3 * j + w) := ⟨(k - (16 + 51 * e + 7)) / 3, (k - (16 + 51 * e + 7)) % 3, by omega, by omega, by omega, by omega, by omega⟩
    obtain ⟨j, w, j0, j1, w0, w1, rfl⟩ := hj
    have h1 := bb_sw_s (g := bb_mv g e p s) (e := e) s0 s1 o0 o1 j0 j1 w0 w1
    have hr : 0 ≤ (if j = o then s else if j = s then o else j) ∧ (if j = o then s else if j = s then o else j) < 12 := by omega
    rw [bb_mv_s hr.1 hr.2 w0 w1] at h1
    have h2 := bb_mv_s (g := g) (e := e) (p := p) (t := o) j0 j1 w0 w1
    have e1 : bb_mvi p s (if j = o then s else if j = s then o else j) = bb_mvi p o j := by
      unfold bb_mvi
      omega
    rw [e1] at h1
    exact h1.trans h2.symm
theorem bb_mv_0 {g : Int → Int} {e p : Int} : bb_mv g e p p = g := by
  funext k
  unfold bb_mv
  by_cases hk : 16 + 51 * e + 7 ≤ k ∧ k < 16 + 51 * e + 43
  · rw [if_pos hk]
    have e1 : bb_mvi p p ((k - (16 + 51 * e + 7)) / 3) = (k - (16 + 51 * e + 7)) / 3 := by unfold bb_mvi; omega
    rw [e1]
    congr 1
    omega
  · rw [if_neg hk]
/-- zeros laid -/
def bb_z0 (f : Int → Int) (b n : Int) : Int → Int := fun k => if 16 + 51 * b ≤ k ∧ k < 16 + 51 * b + n then 0 else f k
theorem bb_z0_0 {f : Int → Int} {b : Int} : bb_z0 f b 0 = f := by
  funext k
  exact if_neg (by omega)
theorem bb_z0_s {f : Int → Int} {b n : Int} (h : 0 ≤ n) : bb_g1 (bb_z0 f b n) (16 + 51 * b + n) 0 = bb_z0 f b (n + 1) := by
  funext k
  unfold bb_g1 bb_z0
  by_cases h1 : k = 16 + 51 * b + n
  · rw [if_pos h1, if_pos (by omega)]
  · rw [if_neg h1]
    by_cases h2 : 16 + 51 * b ≤ k ∧ k < 16 + 51 * b + n
    · rw [if_pos h2, if_pos (by omega)]
    · rw [if_neg h2, if_neg (by omega)]
theorem bb_gb_eq {g : Int → Int} {p st : Int} (h3 : 0 ≤ g 3) : bb_g1 (bb_g1 (bb_g1 (bb_z0 (bb_g1 g 3 (g 3 + 1)) (g 3) 51) (16 + 51 * g 3 + 0) p) (16 + 51 * g 3 + 1) st) (16 + 51 * g 3 + 5) (-1) = bb_gb g p st := by
  funext k
  unfold bb_g1 bb_z0 bb_gb
  dsimp only
  repeat' split
  all_goals first | rfl | omega
theorem bb_no77 {K : ab_Kt} {D : Nat → Int → Int} {L : Nat → Int → Int64} {z : ab_Z} {c : Int} (hw : bb_WS c (D 501)) {l : Int} (hl : ab_rg l) {r d : Int} (h : bb_sp_spool (D 501) l = .inl (r, d)) : ab_cal K 77 [.ref 500, .int (ab_I l)] (ab_mk D L z) = some (.inl (some (.int (ab_I 0))), ab_mk (bb_ref D r d) L z) := by
  have n := bb_WS_n hw
  unfold bb_sp_spool at h
  split at h
  · rename_i h1
    cases h
    simp (discharger := first | assumption | exact True.intro | exact not_false | (refine ab_gK ?_; with_unfolding_all rfl) | exact ab_rgI (by omega) (by omega) | omega) only [ab_a77, ab_y97, bb_y152, if_neg h1, ab_e77_0, ab_e77_1, ab_e77_2, ab_e77_5, ab_e77_8, ab_e77_11, ab_e77_12, ab_e77_13, ab_e77_14, ab_e77_17, ab_e77_18, ab_e77_19, ab_e77_20, ab_e77_23, ab_e77_26, ab_e77_27, ab_e77_30, ab_e77_31, ab_e77_32, ab_e77_35, ab_e77_36, ab_e77_37, ab_e77_38, ab_e77_39, ab_e77_42, ab_e77_45, ab_e77_48, ab_e77_51, ab_e77_52, ab_e77_55, ab_e77_56, ab_e77_57, ab_e77_58, ab_e77_59, ab_e77_60, ab_e77_61, ab_e77_64, ab_e77_65, ab_e77_66, ab_br_t, ab_br_f, ab_re_v (ab_zz _), ab_re_n (ab_zz _)]
  · cases h

theorem bb_ok77 {K : ab_Kt} {D : Nat → Int → Int} {L : Nat → Int → Int64} {z : ab_Z} {c : Int} (hw : bb_WS c (D 501)) (hk9 : bb_HK D) {l : Int} (hl : ab_rg l) {v : Int} {g' : Int → Int} (h : bb_sp_spool (D 501) l = .inr (v, g')) : ab_cal K 77 [.ref 500, .int (ab_I l)] (ab_mk D L z) = some (.inl (some (.int (ab_I v))), ab_mk (bb_row (bb_keep D 501) 501 g') L z) := by
  have n := bb_WS_n hw
  unfold bb_sp_spool at h
  split at h
  · cases h
  · rename_i h1
    cases h
    have h1 := Decidable.not_not.mp h1
    have e : bb_sv2 (D 501) l = if 999 < D 501 2 + l then 999 else D 501 2 + l := rfl
    by_cases h2 : 999 < D 501 2 + l
    · rw [if_pos h2] at e
      rw [e]
      simp (discharger := first | assumption | exact True.intro | exact not_false | (refine ab_gK ?_; with_unfolding_all rfl) | exact ab_rgI (by omega) (by omega) | omega) only [ab_a77, ab_y97, if_pos h1, bb_g1_eq, bb_keep_501, bb_row_eq, bb_row_row, bb_u_row, bb_y117 (.inl rfl) hk9.1 hk9.2, ab_e77_0, ab_e77_1, ab_e77_2, ab_e77_5, ab_e77_8, ab_e77_11, ab_e77_12, ab_e77_13, ab_e77_14, ab_e77_17, ab_e77_18, ab_e77_19, ab_e77_20, ab_e77_23, ab_e77_26, ab_e77_27, ab_e77_30, ab_e77_31, ab_e77_32, ab_e77_35, ab_e77_36, ab_e77_37, ab_e77_38, ab_e77_39, ab_e77_42, ab_e77_45, ab_e77_48, ab_e77_51, ab_e77_52, ab_e77_55, ab_e77_56, ab_e77_57, ab_e77_58, ab_e77_59, ab_e77_60, ab_e77_61, ab_e77_64, ab_e77_65, ab_e77_66, ab_br_t, ab_br_f, ab_re_v (ab_zz _), ab_re_n (ab_zz _)]
    · rw [if_neg h2] at e
      rw [e]
      simp (discharger := first | assumption | exact True.intro | exact not_false | (refine ab_gK ?_; with_unfolding_all rfl) | exact ab_rgI (by omega) (by omega) | omega) only [ab_a77, ab_y97, if_pos h1, bb_g1_eq, bb_keep_501, bb_row_eq, bb_row_row, bb_u_row, bb_y117 (.inl rfl) hk9.1 hk9.2, ab_e77_0, ab_e77_1, ab_e77_2, ab_e77_5, ab_e77_8, ab_e77_11, ab_e77_12, ab_e77_13, ab_e77_14, ab_e77_17, ab_e77_18, ab_e77_19, ab_e77_20, ab_e77_23, ab_e77_26, ab_e77_27, ab_e77_30, ab_e77_31, ab_e77_32, ab_e77_35, ab_e77_36, ab_e77_37, ab_e77_38, ab_e77_39, ab_e77_42, ab_e77_45, ab_e77_48, ab_e77_51, ab_e77_52, ab_e77_55, ab_e77_56, ab_e77_57, ab_e77_58, ab_e77_59, ab_e77_60, ab_e77_61, ab_e77_64, ab_e77_65, ab_e77_66, ab_br_t, ab_br_f, ab_re_v (ab_zz _), ab_re_n (ab_zz _)]

theorem bb_no83 {K : ab_Kt} {D : Nat → Int → Int} {L : Nat → Int → Int64} {z : ab_Z} {c : Int} (hw : bb_WS c (D 501)) {b f fo t : Int} (hb : ab_rg b) (hf : ab_rg f) (hfo : ab_rg fo) (ht : t = 0 ∨ t = 1) {r d : Int} (h : bb_sp_gather (D 501) b f fo t = .inl (r, d)) : ab_cal K 83 [.ref 500, .int (ab_I b), .int (ab_I f), .int (ab_I fo), .int (ab_I t)] (ab_mk D L z) = some (.inl (some (.int (ab_I 0))), ab_mk (bb_ref D r d) L z) := by
  have n := bb_WS_n hw
  unfold bb_sp_gather at h
  split at h
  · rename_i x hh
    cases h
    simp (discharger := first | assumption | exact True.intro | exact not_false | (refine ab_gK ?_; with_unfolding_all rfl) | exact ab_rgI (by omega) (by omega) | omega) only [ab_a83, bb_y167s hw hb hh, ab_e83_0, ab_e83_1, ab_e83_2, ab_e83_5, ab_e83_8, ab_e83_9, ab_e83_10, ab_e83_11, ab_e83_12, ab_e83_14, ab_e83_17, ab_e83_20, ab_e83_21, ab_e83_22, ab_e83_23, ab_e83_26, ab_e83_29, ab_e83_30, ab_e83_31, ab_e83_32, ab_e83_35, ab_e83_36, ab_e83_37, ab_e83_38, ab_e83_39, ab_e83_42, ab_e83_44, ab_e83_47, ab_e83_48, ab_e83_49, ab_e83_51, ab_e83_54, ab_e83_55, ab_e83_56, ab_e83_57, ab_e83_60, ab_e83_63, ab_e83_64, ab_e83_65, ab_e83_66, ab_e83_69, ab_e83_71, ab_e83_72, ab_e83_73, ab_e83_74, ab_e83_76, ab_e83_77, ab_e83_78, ab_e83_81, ab_e83_82, ab_e83_83, ab_e83_85, ab_e83_86, ab_e83_87, ab_e83_89, ab_e83_92, ab_e83_93, ab_e83_96, ab_e83_97, ab_e83_100, ab_e83_102, ab_br_t, ab_br_f, ab_re_v (ab_zz _), ab_re_n (ab_zz _)]
  · rename_i hh
    have hm := bb_held_n hh
    have hb9 := bb_WS_W hw hm.1.1 hm.1.2
    have hn := bb_WB_n hb9
    have b0 := hm.1.1
    have b6 : b < 6 := by omega
    have hI := bb_WS_IR hw hm.1.1 hm.1.2
    split at h
    · rename_i h1
      cases h
      by_cases h2 : 1 ≤ f ∧ f ≤ 99
      · have h3 : ¬ (1 ≤ fo ∧ fo ≤ 3) := fun x => h1 ⟨h2.1, h2.2, x.1, x.2⟩
        simp (discharger := first | assumption | exact True.intro | exact not_false | (refine ab_gK ?_; with_unfolding_all rfl) | exact ab_rgI (by omega) (by omega) | omega) only [ab_a83, ab_y97, ab_y110, bb_y152, bb_y167n hw hb hh, if_pos h2, if_neg h3, ab_e83_0, ab_e83_1, ab_e83_2, ab_e83_5, ab_e83_8, ab_e83_9, ab_e83_10, ab_e83_11, ab_e83_12, ab_e83_14, ab_e83_17, ab_e83_20, ab_e83_21, ab_e83_22, ab_e83_23, ab_e83_26, ab_e83_29, ab_e83_30, ab_e83_31, ab_e83_32, ab_e83_35, ab_e83_36, ab_e83_37, ab_e83_38, ab_e83_39, ab_e83_42, ab_e83_44, ab_e83_47, ab_e83_48, ab_e83_49, ab_e83_51, ab_e83_54, ab_e83_55, ab_e83_56, ab_e83_57, ab_e83_60, ab_e83_63, ab_e83_64, ab_e83_65, ab_e83_66, ab_e83_69, ab_e83_71, ab_e83_72, ab_e83_73, ab_e83_74, ab_e83_76, ab_e83_77, ab_e83_78, ab_e83_81, ab_e83_82, ab_e83_83, ab_e83_85, ab_e83_86, ab_e83_87, ab_e83_89, ab_e83_92, ab_e83_93, ab_e83_96, ab_e83_97, ab_e83_100, ab_e83_102, ab_br_t, ab_br_f, ab_re_v (ab_zz _), ab_re_n (ab_zz _)]
      · skip
        simp (discharger := first | assumption | exact True.intro | exact not_false | (refine ab_gK ?_; with_unfolding_all rfl) | exact ab_rgI (by omega) (by omega) | omega) only [ab_a83, ab_y97, ab_y110, bb_y152, bb_y167n hw hb hh, if_neg h2, ab_e83_0, ab_e83_1, ab_e83_2, ab_e83_5, ab_e83_8, ab_e83_9, ab_e83_10, ab_e83_11, ab_e83_12, ab_e83_14, ab_e83_17, ab_e83_20, ab_e83_21, ab_e83_22, ab_e83_23, ab_e83_26, ab_e83_29, ab_e83_30, ab_e83_31, ab_e83_32, ab_e83_35, ab_e83_36, ab_e83_37, ab_e83_38, ab_e83_39, ab_e83_42, ab_e83_44, ab_e83_47, ab_e83_48, ab_e83_49, ab_e83_51, ab_e83_54, ab_e83_55, ab_e83_56, ab_e83_57, ab_e83_60, ab_e83_63, ab_e83_64, ab_e83_65, ab_e83_66, ab_e83_69, ab_e83_71, ab_e83_72, ab_e83_73, ab_e83_74, ab_e83_76, ab_e83_77, ab_e83_78, ab_e83_81, ab_e83_82, ab_e83_83, ab_e83_85, ab_e83_86, ab_e83_87, ab_e83_89, ab_e83_92, ab_e83_93, ab_e83_96, ab_e83_97, ab_e83_100, ab_e83_102, ab_br_t, ab_br_f, ab_re_v (ab_zz _), ab_re_n (ab_zz _)]
    · rename_i h1
      have h1 := Decidable.not_not.mp h1
      have h2 : 1 ≤ f ∧ f ≤ 99 := ⟨h1.1, h1.2.1⟩
      have h3 : 1 ≤ fo ∧ fo ≤ 3 := h1.2.2
      split at h
      · rename_i h4
        cases h
        simp (discharger := first | assumption | exact True.intro | exact not_false | (refine ab_gK ?_; with_unfolding_all rfl) | exact ab_rgI (by omega) (by omega) | omega) only [ab_a83, ab_y97, ab_y110, bb_y152, bb_y167n hw hb hh, if_pos h2, if_pos h3, ab_e83_0, ab_e83_1, ab_e83_2, ab_e83_5, ab_e83_8, ab_e83_9, ab_e83_10, ab_e83_11, ab_e83_12, ab_e83_14, ab_e83_17, ab_e83_20, ab_e83_21, ab_e83_22, ab_e83_23, ab_e83_26, ab_e83_29, ab_e83_30, ab_e83_31, ab_e83_32, ab_e83_35, ab_e83_36, ab_e83_37, ab_e83_38, ab_e83_39, ab_e83_42, ab_e83_44, ab_e83_47, ab_e83_48, ab_e83_49, ab_e83_51, ab_e83_54, ab_e83_55, ab_e83_56, ab_e83_57, ab_e83_60, ab_e83_63, ab_e83_64, ab_e83_65, ab_e83_66, ab_e83_69, ab_e83_71, ab_e83_72, ab_e83_73, ab_e83_74, ab_e83_76, ab_e83_77, ab_e83_78, ab_e83_81, ab_e83_82, ab_e83_83, ab_e83_85, ab_e83_86, ab_e83_87, ab_e83_89, ab_e83_92, ab_e83_93, ab_e83_96, ab_e83_97, ab_e83_100, ab_e83_102, ab_br_t, ab_br_f, ab_re_v (ab_zz _), ab_re_n (ab_zz _)]
      · cases h

theorem bb_ok83 {K : ab_Kt} {D : Nat → Int → Int} {L : Nat → Int → Int64} {z : ab_Z} {c : Int} (hw : bb_WS c (D 501)) (hk9 : bb_HK D) {b f fo t : Int} (hb : ab_rg b) (hf : ab_rg f) (hfo : ab_rg fo) (ht : t = 0 ∨ t = 1) {v : Int} {g' : Int → Int} (h : bb_sp_gather (D 501) b f fo t = .inr (v, g')) : ab_cal K 83 [.ref 500, .int (ab_I b), .int (ab_I f), .int (ab_I fo), .int (ab_I t)] (ab_mk D L z) = some (.inl (some (.int (ab_I v))), ab_mk (bb_row (bb_keep D 501) 501 g') L z) := by
  have n := bb_WS_n hw
  unfold bb_sp_gather at h
  split at h
  · rename_i x hh
    cases h
  · rename_i hh
    have hm := bb_held_n hh
    have hb9 := bb_WS_W hw hm.1.1 hm.1.2
    have hn := bb_WB_n hb9
    have b0 := hm.1.1
    have b6 : b < 6 := by omega
    have hI := bb_WS_IR hw hm.1.1 hm.1.2
    split at h
    · cases h
    · rename_i h1
      have h1 := Decidable.not_not.mp h1
      have h2 : 1 ≤ f ∧ f ≤ 99 := ⟨h1.1, h1.2.1⟩
      have h3 : 1 ≤ fo ∧ fo ≤ 3 := h1.2.2
      split at h
      · cases h
      · rename_i h4
        cases h
        rcases ht with rfl | rfl
        · simp (discharger := first | assumption | exact True.intro | exact not_false | (refine ab_gK ?_; with_unfolding_all rfl) | exact ab_rgI (by omega) (by omega) | omega) only [ab_a83, ab_y97, ab_y110, bb_y152, bb_y167n hw hb hh, if_pos h2, if_pos h3, ab_y157, bb_y169, bb_keep_501, bb_row_eq, bb_row_row, bb_u_row, bb_y117 (.inl rfl) hk9.1 hk9.2, ab_e83_0, ab_e83_1, ab_e83_2, ab_e83_5, ab_e83_8, ab_e83_9, ab_e83_10, ab_e83_11, ab_e83_12, ab_e83_14, ab_e83_17, ab_e83_20, ab_e83_21, ab_e83_22, ab_e83_23, ab_e83_26, ab_e83_29, ab_e83_30, ab_e83_31, ab_e83_32, ab_e83_35, ab_e83_36, ab_e83_37, ab_e83_38, ab_e83_39, ab_e83_42, ab_e83_44, ab_e83_47, ab_e83_48, ab_e83_49, ab_e83_51, ab_e83_54, ab_e83_55, ab_e83_56, ab_e83_57, ab_e83_60, ab_e83_63, ab_e83_64, ab_e83_65, ab_e83_66, ab_e83_69, ab_e83_71, ab_e83_72, ab_e83_73, ab_e83_74, ab_e83_76, ab_e83_77, ab_e83_78, ab_e83_81, ab_e83_82, ab_e83_83, ab_e83_85, ab_e83_86, ab_e83_87, ab_e83_89, ab_e83_92, ab_e83_93, ab_e83_96, ab_e83_97, ab_e83_100, ab_e83_102, ab_br_t, ab_br_f, ab_re_v (ab_zz _), ab_re_n (ab_zz _)]
        · simp (discharger := first | assumption | exact True.intro | exact not_false | (refine ab_gK ?_; with_unfolding_all rfl) | exact ab_rgI (by omega) (by omega) | omega) only [ab_a83, ab_y97, ab_y110, bb_y152, bb_y167n hw hb hh, if_pos h2, if_pos h3, ab_y157, bb_y169, bb_keep_501, bb_row_eq, bb_row_row, bb_u_row, bb_y117 (.inl rfl) hk9.1 hk9.2, ab_e83_0, ab_e83_1, ab_e83_2, ab_e83_5, ab_e83_8, ab_e83_9, ab_e83_10, ab_e83_11, ab_e83_12, ab_e83_14, ab_e83_17, ab_e83_20, ab_e83_21, ab_e83_22, ab_e83_23, ab_e83_26, ab_e83_29, ab_e83_30, ab_e83_31, ab_e83_32, ab_e83_35, ab_e83_36, ab_e83_37, ab_e83_38, ab_e83_39, ab_e83_42, ab_e83_44, ab_e83_47, ab_e83_48, ab_e83_49, ab_e83_51, ab_e83_54, ab_e83_55, ab_e83_56, ab_e83_57, ab_e83_60, ab_e83_63, ab_e83_64, ab_e83_65, ab_e83_66, ab_e83_69, ab_e83_71, ab_e83_72, ab_e83_73, ab_e83_74, ab_e83_76, ab_e83_77, ab_e83_78, ab_e83_81, ab_e83_82, ab_e83_83, ab_e83_85, ab_e83_86, ab_e83_87, ab_e83_89, ab_e83_92, ab_e83_93, ab_e83_96, ab_e83_97, ab_e83_100, ab_e83_102, ab_br_t, ab_br_f, ab_re_v (ab_zz _), ab_re_n (ab_zz _)]

theorem bb_l85 {K : ab_Kt} {D : Nat → Int → Int} {L : Nat → Int → Int64} {z : ab_Z} {b p q : Int} (b0 : 0 ≤ b) (b6 : b < 6) {R : Option (ab_O × ab_H)} (f : Int → Int) (k : Int) (k0 : 0 ≤ k) (k1 : k ≤ 51) (hD : D 501 = bb_z0 f b k) (hR : ab_ev K 85 94 [some (.ref 500), some (.int (ab_I p)), some (.int (ab_I q)), some (.int (ab_I b)), some (.int (ab_I 51))] [] (ab_mk (bb_row D 501 (bb_z0 f b 51)) L z) = R) : ab_ev K 85 73 [some (.ref 500), some (.int (ab_I p)), some (.int (ab_I q)), some (.int (ab_I b)), some (.int (ab_I k))] [] (ab_mk D L z) = R := by
  rw [ab_e85_73]
  by_cases hk : 51 ≤ k
  · simp (discharger := first | assumption | exact True.intro | exact not_false | (refine ab_gK ?_; with_unfolding_all rfl) | exact ab_rgI (by omega) (by omega) | omega) only [ab_e85_0, ab_e85_1, ab_e85_2, ab_e85_4, ab_e85_7, ab_e85_10, ab_e85_11, ab_e85_12, ab_e85_13, ab_e85_16, ab_e85_19, ab_e85_20, ab_e85_21, ab_e85_22, ab_e85_25, ab_e85_26, ab_e85_27, ab_e85_30, ab_e85_31, ab_e85_32, ab_e85_34, ab_e85_37, ab_e85_38, ab_e85_39, ab_e85_41, ab_e85_44, ab_e85_45, ab_e85_46, ab_e85_47, ab_e85_50, ab_e85_53, ab_e85_54, ab_e85_57, ab_e85_58, ab_e85_59, ab_e85_60, ab_e85_61, ab_e85_64, ab_e85_65, ab_e85_66, ab_e85_67, ab_e85_68, ab_e85_69, ab_e85_70, ab_e85_71, ab_e85_75, ab_e85_77, ab_e85_80, ab_e85_81, ab_e85_82, ab_e85_84, ab_e85_85, ab_e85_88, ab_e85_91, ab_e85_95, ab_e85_96, ab_e85_97, ab_e85_98, ab_e85_101, ab_e85_102, ab_e85_103, ab_e85_104, ab_e85_105, ab_e85_108, ab_e85_109, ab_e85_110, ab_e85_111, ab_e85_112, ab_e85_115, ab_e85_116, ab_br_t, ab_br_f, ab_re_v (ab_zz _), ab_re_n (ab_zz _)]
    have ek : k = 51 := by omega
    rw [ek]
    rw [← ek, ← hD, bb_row_self, ek] at hR
    exact hR
  · simp (discharger := first | assumption | exact True.intro | exact not_false | (refine ab_gK ?_; with_unfolding_all rfl) | exact ab_rgI (by omega) (by omega) | omega) only [ab_y157, ab_e85_0, ab_e85_1, ab_e85_2, ab_e85_4, ab_e85_7, ab_e85_10, ab_e85_11, ab_e85_12, ab_e85_13, ab_e85_16, ab_e85_19, ab_e85_20, ab_e85_21, ab_e85_22, ab_e85_25, ab_e85_26, ab_e85_27, ab_e85_30, ab_e85_31, ab_e85_32, ab_e85_34, ab_e85_37, ab_e85_38, ab_e85_39, ab_e85_41, ab_e85_44, ab_e85_45, ab_e85_46, ab_e85_47, ab_e85_50, ab_e85_53, ab_e85_54, ab_e85_57, ab_e85_58, ab_e85_59, ab_e85_60, ab_e85_61, ab_e85_64, ab_e85_65, ab_e85_66, ab_e85_67, ab_e85_68, ab_e85_69, ab_e85_70, ab_e85_71, ab_e85_75, ab_e85_77, ab_e85_80, ab_e85_81, ab_e85_82, ab_e85_84, ab_e85_85, ab_e85_88, ab_e85_91, ab_e85_95, ab_e85_96, ab_e85_97, ab_e85_98, ab_e85_101, ab_e85_102, ab_e85_103, ab_e85_104, ab_e85_105, ab_e85_108, ab_e85_109, ab_e85_110, ab_e85_111, ab_e85_112, ab_e85_115, ab_e85_116, ab_br_t, ab_br_f, ab_re_v (ab_zz _), ab_re_n (ab_zz _)]
    refine bb_l85 (D := ab_u D 501 (16 + 51 * b + k) 0) b0 b6 f (k + 1) (by omega) (by omega) (by rw [bb_u_g1, hD, bb_z0_s k0]) ?_
    rw [bb_u_row, bb_row_row]
    exact hR
termination_by (51 - k).toNat
decreasing_by omega

theorem bb_no85 {K : ab_Kt} {D : Nat → Int → Int} {L : Nat → Int → Int64} {z : ab_Z} {c : Int} (hw : bb_WS c (D 501)) {p q : Int} (hp : ab_rg p) (hq : ab_rg q) {r d : Int} (h : bb_sp_book (D 501) p q = .inl (r, d)) : ab_cal K 85 [.ref 500, .int (ab_I p), .int (ab_I q)] (ab_mk D L z) = some (.inl (some (.int (ab_I 0))), ab_mk (bb_ref D r d) L z) := by
  have n := bb_WS_n hw
  unfold bb_sp_book at h
  split at h
  · rename_i h1
    cases h
    by_cases h2 : 4 ≤ p ∧ p ≤ 96
    · have h3 : ¬ (2 ≤ q ∧ q ≤ 5) := fun x => h1 ⟨h2.1, h2.2, x.1, x.2⟩
      simp (discharger := first | assumption | exact True.intro | exact not_false | (refine ab_gK ?_; with_unfolding_all rfl) | exact ab_rgI (by omega) (by omega) | omega) only [ab_a85, ab_y97, bb_y152, if_pos h2, if_neg h3, ab_e85_0, ab_e85_1, ab_e85_2, ab_e85_4, ab_e85_7, ab_e85_10, ab_e85_11, ab_e85_12, ab_e85_13, ab_e85_16, ab_e85_19, ab_e85_20, ab_e85_21, ab_e85_22, ab_e85_25, ab_e85_26, ab_e85_27, ab_e85_30, ab_e85_31, ab_e85_32, ab_e85_34, ab_e85_37, ab_e85_38, ab_e85_39, ab_e85_41, ab_e85_44, ab_e85_45, ab_e85_46, ab_e85_47, ab_e85_50, ab_e85_53, ab_e85_54, ab_e85_57, ab_e85_58, ab_e85_59, ab_e85_60, ab_e85_61, ab_e85_64, ab_e85_65, ab_e85_66, ab_e85_67, ab_e85_68, ab_e85_69, ab_e85_70, ab_e85_71, ab_e85_75, ab_e85_77, ab_e85_80, ab_e85_81, ab_e85_82, ab_e85_84, ab_e85_85, ab_e85_88, ab_e85_91, ab_e85_94, ab_e85_95, ab_e85_96, ab_e85_97, ab_e85_98, ab_e85_101, ab_e85_102, ab_e85_103, ab_e85_104, ab_e85_105, ab_e85_108, ab_e85_109, ab_e85_110, ab_e85_111, ab_e85_112, ab_e85_115, ab_e85_116, ab_br_t, ab_br_f, ab_re_v (ab_zz _), ab_re_n (ab_zz _)]
    · skip
      simp (discharger := first | assumption | exact True.intro | exact not_false | (refine ab_gK ?_; with_unfolding_all rfl) | exact ab_rgI (by omega) (by omega) | omega) only [ab_a85, ab_y97, bb_y152, if_neg h2, ab_e85_0, ab_e85_1, ab_e85_2, ab_e85_4, ab_e85_7, ab_e85_10, ab_e85_11, ab_e85_12, ab_e85_13, ab_e85_16, ab_e85_19, ab_e85_20, ab_e85_21, ab_e85_22, ab_e85_25, ab_e85_26, ab_e85_27, ab_e85_30, ab_e85_31, ab_e85_32, ab_e85_34, ab_e85_37, ab_e85_38, ab_e85_39, ab_e85_41, ab_e85_44, ab_e85_45, ab_e85_46, ab_e85_47, ab_e85_50, ab_e85_53, ab_e85_54, ab_e85_57, ab_e85_58, ab_e85_59, ab_e85_60, ab_e85_61, ab_e85_64, ab_e85_65, ab_e85_66, ab_e85_67, ab_e85_68, ab_e85_69, ab_e85_70, ab_e85_71, ab_e85_75, ab_e85_77, ab_e85_80, ab_e85_81, ab_e85_82, ab_e85_84, ab_e85_85, ab_e85_88, ab_e85_91, ab_e85_94, ab_e85_95, ab_e85_96, ab_e85_97, ab_e85_98, ab_e85_101, ab_e85_102, ab_e85_103, ab_e85_104, ab_e85_105, ab_e85_108, ab_e85_109, ab_e85_110, ab_e85_111, ab_e85_112, ab_e85_115, ab_e85_116, ab_br_t, ab_br_f, ab_re_v (ab_zz _), ab_re_n (ab_zz _)]
  · rename_i h1
    have h1 := Decidable.not_not.mp h1
    have h2 : 4 ≤ p ∧ p ≤ 96 := ⟨h1.1, h1.2.1⟩
    have h3 : 2 ≤ q ∧ q ≤ 5 := h1.2.2
    split at h
    · cases h
      simp (discharger := first | assumption | exact True.intro | exact not_false | (refine ab_gK ?_; with_unfolding_all rfl) | exact ab_rgI (by omega) (by omega) | omega) only [ab_a85, ab_y97, bb_y152, if_pos h2, if_pos h3, ab_e85_0, ab_e85_1, ab_e85_2, ab_e85_4, ab_e85_7, ab_e85_10, ab_e85_11, ab_e85_12, ab_e85_13, ab_e85_16, ab_e85_19, ab_e85_20, ab_e85_21, ab_e85_22, ab_e85_25, ab_e85_26, ab_e85_27, ab_e85_30, ab_e85_31, ab_e85_32, ab_e85_34, ab_e85_37, ab_e85_38, ab_e85_39, ab_e85_41, ab_e85_44, ab_e85_45, ab_e85_46, ab_e85_47, ab_e85_50, ab_e85_53, ab_e85_54, ab_e85_57, ab_e85_58, ab_e85_59, ab_e85_60, ab_e85_61, ab_e85_64, ab_e85_65, ab_e85_66, ab_e85_67, ab_e85_68, ab_e85_69, ab_e85_70, ab_e85_71, ab_e85_75, ab_e85_77, ab_e85_80, ab_e85_81, ab_e85_82, ab_e85_84, ab_e85_85, ab_e85_88, ab_e85_91, ab_e85_94, ab_e85_95, ab_e85_96, ab_e85_97, ab_e85_98, ab_e85_101, ab_e85_102, ab_e85_103, ab_e85_104, ab_e85_105, ab_e85_108, ab_e85_109, ab_e85_110, ab_e85_111, ab_e85_112, ab_e85_115, ab_e85_116, ab_br_t, ab_br_f, ab_re_v (ab_zz _), ab_re_n (ab_zz _)]
    · cases h

theorem bb_ok85 {K : ab_Kt} {D : Nat → Int → Int} {L : Nat → Int → Int64} {z : ab_Z} {c : Int} (hw : bb_WS c (D 501)) (hk9 : bb_HK D) {p q : Int} (hp : ab_rg p) (hq : ab_rg q) {v : Int} {g' : Int → Int} (h : bb_sp_book (D 501) p q = .inr (v, g')) : ab_cal K 85 [.ref 500, .int (ab_I p), .int (ab_I q)] (ab_mk D L z) = some (.inl (some (.int (ab_I v))), ab_mk (bb_row (bb_keep D 501) 501 g') L z) := by
  have n := bb_WS_n hw
  unfold bb_sp_book at h
  split at h
  · cases h
  · rename_i h1
    have h1 := Decidable.not_not.mp h1
    have h2 : 4 ≤ p ∧ p ≤ 96 := ⟨h1.1, h1.2.1⟩
    have h3 : 2 ≤ q ∧ q ≤ 5 := h1.2.2
    split at h
    · cases h
    · rename_i h4
      obtain ⟨hv, hg⟩ := Prod.mk.inj (Sum.inr.inj h)
      rw [← hv, ← hg]
      simp (discharger := first | assumption | exact True.intro | exact not_false | (refine ab_gK ?_; with_unfolding_all rfl) | exact ab_rgI (by omega) (by omega) | omega) only [ab_a85, ab_y97, if_pos h2, if_pos h3, bb_keep_501, bb_row_eq, bb_row_row, bb_u_row, bb_y117 (.inl rfl) hk9.1 hk9.2, ab_e85_0, ab_e85_1, ab_e85_2, ab_e85_4, ab_e85_7, ab_e85_10, ab_e85_11, ab_e85_12, ab_e85_13, ab_e85_16, ab_e85_19, ab_e85_20, ab_e85_21, ab_e85_22, ab_e85_25, ab_e85_26, ab_e85_27, ab_e85_30, ab_e85_31, ab_e85_32, ab_e85_34, ab_e85_37, ab_e85_38, ab_e85_39, ab_e85_41, ab_e85_44, ab_e85_45, ab_e85_46, ab_e85_47, ab_e85_50, ab_e85_53, ab_e85_54, ab_e85_57, ab_e85_58, ab_e85_59, ab_e85_60, ab_e85_61, ab_e85_64, ab_e85_65, ab_e85_66, ab_e85_67, ab_e85_68, ab_e85_69, ab_e85_70, ab_e85_71, ab_e85_75, ab_e85_77, ab_e85_80, ab_e85_81, ab_e85_82, ab_e85_84, ab_e85_85, ab_e85_88, ab_e85_91, ab_e85_94, ab_e85_95, ab_e85_96, ab_e85_97, ab_e85_98, ab_e85_101, ab_e85_102, ab_e85_103, ab_e85_104, ab_e85_105, ab_e85_108, ab_e85_109, ab_e85_110, ab_e85_111, ab_e85_112, ab_e85_115, ab_e85_116, ab_br_t, ab_br_f, ab_re_v (ab_zz _), ab_re_n (ab_zz _)]
      refine bb_l85 n.1.1 (by omega) (bb_g1 (D 501) 3 (D 501 3 + 1)) 0 (by omega) (by omega) (by rw [bb_row_eq, bb_z0_0]) ?_
      simp (discharger := first | assumption | exact True.intro | exact not_false | (refine ab_gK ?_; with_unfolding_all rfl) | exact ab_rgI (by omega) (by omega) | omega) only [ab_y157, bb_keep_501, bb_row_eq, bb_row_row, bb_u_row, bb_y117 (.inl rfl) hk9.1 hk9.2, ab_e85_0, ab_e85_1, ab_e85_2, ab_e85_4, ab_e85_7, ab_e85_10, ab_e85_11, ab_e85_12, ab_e85_13, ab_e85_16, ab_e85_19, ab_e85_20, ab_e85_21, ab_e85_22, ab_e85_25, ab_e85_26, ab_e85_27, ab_e85_30, ab_e85_31, ab_e85_32, ab_e85_34, ab_e85_37, ab_e85_38, ab_e85_39, ab_e85_41, ab_e85_44, ab_e85_45, ab_e85_46, ab_e85_47, ab_e85_50, ab_e85_53, ab_e85_54, ab_e85_57, ab_e85_58, ab_e85_59, ab_e85_60, ab_e85_61, ab_e85_64, ab_e85_65, ab_e85_66, ab_e85_67, ab_e85_68, ab_e85_69, ab_e85_70, ab_e85_71, ab_e85_75, ab_e85_77, ab_e85_80, ab_e85_81, ab_e85_82, ab_e85_84, ab_e85_85, ab_e85_88, ab_e85_91, ab_e85_94, ab_e85_95, ab_e85_96, ab_e85_97, ab_e85_98, ab_e85_101, ab_e85_102, ab_e85_103, ab_e85_104, ab_e85_105, ab_e85_108, ab_e85_109, ab_e85_110, ab_e85_111, ab_e85_112, ab_e85_115, ab_e85_116, ab_br_t, ab_br_f, ab_re_v (ab_zz _), ab_re_n (ab_zz _)]
      rw [bb_gb_eq n.1.1]

theorem bb_l81u {K : ab_Kt} {D : Nat → Int → Int} {L : Nat → Int → Int64} {z : ab_Z} {b p t : Int} (b0 : 0 ≤ b) (b6 : b < 6) (p0 : 0 ≤ p) (p1 : p < 12) (t0 : 0 ≤ t) (t1 : t < 12) {R : Option (ab_O × ab_H)} (g : Int → Int) (s : Int) (s0 : p ≤ s) (s1 : s ≤ max p t) (hD : D 501 = bb_mv g b p s) (hR : ∀ x, ab_ev K 81 76 [some (.ref 500), some (.int (ab_I b)), some (.int (ab_I p)), some (.int (ab_I t)), some (.int (ab_I x))] [] (ab_mk (bb_row D 501 (bb_mv g b p (max p t))) L z) = R) : ab_ev K 81 53 [some (.ref 500), some (.int (ab_I b)), some (.int (ab_I p)), some (.int (ab_I t)), some (.int (ab_I s))] [] (ab_mk D L z) = R := by
  rw [ab_e81_53]
  by_cases hk : t ≤ s
  · simp (discharger := first | assumption | exact True.intro | exact not_false | (refine ab_gK ?_; with_unfolding_all rfl) | exact ab_rgI (by omega) (by omega) | omega) only [ab_e81_0, ab_e81_1, ab_e81_2, ab_e81_5, ab_e81_8, ab_e81_9, ab_e81_10, ab_e81_11, ab_e81_12, ab_e81_13, ab_e81_16, ab_e81_19, ab_e81_20, ab_e81_21, ab_e81_22, ab_e81_25, ab_e81_26, ab_e81_27, ab_e81_28, ab_e81_29, ab_e81_32, ab_e81_35, ab_e81_36, ab_e81_37, ab_e81_38, ab_e81_41, ab_e81_42, ab_e81_43, ab_e81_44, ab_e81_47, ab_e81_50, ab_e81_51, ab_e81_55, ab_e81_56, ab_e81_59, ab_e81_60, ab_e81_61, ab_e81_63, ab_e81_65, ab_e81_66, ab_e81_67, ab_e81_70, ab_e81_73, ab_e81_77, ab_e81_81, ab_e81_82, ab_e81_85, ab_e81_86, ab_e81_87, ab_e81_89, ab_e81_91, ab_e81_92, ab_e81_93, ab_e81_96, ab_e81_99, ab_e81_103, ab_e81_104, ab_e81_107, ab_br_t, ab_br_f, ab_re_v (ab_zz _), ab_re_n (ab_zz _)]
    have ek : s = max p t := by omega
    have hR := hR s
    rw [← ek, ← hD, bb_row_self] at hR
    exact hR
  · simp (discharger := first | assumption | exact True.intro | exact not_false | (refine ab_gK ?_; with_unfolding_all rfl) | exact ab_rgI (by omega) (by omega) | omega) only [bb_y168, ab_e81_0, ab_e81_1, ab_e81_2, ab_e81_5, ab_e81_8, ab_e81_9, ab_e81_10, ab_e81_11, ab_e81_12, ab_e81_13, ab_e81_16, ab_e81_19, ab_e81_20, ab_e81_21, ab_e81_22, ab_e81_25, ab_e81_26, ab_e81_27, ab_e81_28, ab_e81_29, ab_e81_32, ab_e81_35, ab_e81_36, ab_e81_37, ab_e81_38, ab_e81_41, ab_e81_42, ab_e81_43, ab_e81_44, ab_e81_47, ab_e81_50, ab_e81_51, ab_e81_55, ab_e81_56, ab_e81_59, ab_e81_60, ab_e81_61, ab_e81_63, ab_e81_65, ab_e81_66, ab_e81_67, ab_e81_70, ab_e81_73, ab_e81_77, ab_e81_81, ab_e81_82, ab_e81_85, ab_e81_86, ab_e81_87, ab_e81_89, ab_e81_91, ab_e81_92, ab_e81_93, ab_e81_96, ab_e81_99, ab_e81_103, ab_e81_104, ab_e81_107, ab_br_t, ab_br_f, ab_re_v (ab_zz _), ab_re_n (ab_zz _)]
    refine bb_l81u (D := bb_row D 501 (bb_sw (D 501) b s (s + 1))) b0 b6 p0 p1 t0 t1 g (s + 1) (by omega) (by omega) (by rw [bb_row_eq, hD]; exact bb_sw_mv (by omega) (by omega) (by omega) (by omega) p0 p1 (.inl ⟨s0, rfl⟩)) (fun x => ?_)
    rw [bb_row_row]
    exact hR x
termination_by (t - s).toNat
decreasing_by all_goals omega

theorem bb_l81d {K : ab_Kt} {D : Nat → Int → Int} {L : Nat → Int → Int64} {z : ab_Z} {b p t : Int} (b0 : 0 ≤ b) (b6 : b < 6) (p0 : 0 ≤ p) (p1 : p < 12) (t0 : 0 ≤ t) (t1 : t < 12) {R : Option (ab_O × ab_H)} (g : Int → Int) (s : Int) (s0 : s ≤ p) (s1 : min p t ≤ s) (hD : D 501 = bb_mv g b p s) (hR : ∀ x, ab_ev K 81 102 [some (.ref 500), some (.int (ab_I b)), some (.int (ab_I p)), some (.int (ab_I t)), some (.int (ab_I x))] [] (ab_mk (bb_row D 501 (bb_mv g b p (min p t))) L z) = R) : ab_ev K 81 79 [some (.ref 500), some (.int (ab_I b)), some (.int (ab_I p)), some (.int (ab_I t)), some (.int (ab_I s))] [] (ab_mk D L z) = R := by
  rw [ab_e81_79]
  by_cases hk : s ≤ t
  · simp (discharger := first | assumption | exact True.intro | exact not_false | (refine ab_gK ?_; with_unfolding_all rfl) | exact ab_rgI (by omega) (by omega) | omega) only [ab_e81_0, ab_e81_1, ab_e81_2, ab_e81_5, ab_e81_8, ab_e81_9, ab_e81_10, ab_e81_11, ab_e81_12, ab_e81_13, ab_e81_16, ab_e81_19, ab_e81_20, ab_e81_21, ab_e81_22, ab_e81_25, ab_e81_26, ab_e81_27, ab_e81_28, ab_e81_29, ab_e81_32, ab_e81_35, ab_e81_36, ab_e81_37, ab_e81_38, ab_e81_41, ab_e81_42, ab_e81_43, ab_e81_44, ab_e81_47, ab_e81_50, ab_e81_51, ab_e81_55, ab_e81_56, ab_e81_59, ab_e81_60, ab_e81_61, ab_e81_63, ab_e81_65, ab_e81_66, ab_e81_67, ab_e81_70, ab_e81_73, ab_e81_77, ab_e81_81, ab_e81_82, ab_e81_85, ab_e81_86, ab_e81_87, ab_e81_89, ab_e81_91, ab_e81_92, ab_e81_93, ab_e81_96, ab_e81_99, ab_e81_103, ab_e81_104, ab_e81_107, ab_br_t, ab_br_f, ab_re_v (ab_zz _), ab_re_n (ab_zz _)]
    have ek : s = min p t := by omega
    have hR := hR s
    rw [← ek, ← hD, bb_row_self] at hR
    exact hR
  · simp (discharger := first | assumption | exact True.intro | exact not_false | (refine ab_gK ?_; with_unfolding_all rfl) | exact ab_rgI (by omega) (by omega) | omega) only [bb_y168, ab_e81_0, ab_e81_1, ab_e81_2, ab_e81_5, ab_e81_8, ab_e81_9, ab_e81_10, ab_e81_11, ab_e81_12, ab_e81_13, ab_e81_16, ab_e81_19, ab_e81_20, ab_e81_21, ab_e81_22, ab_e81_25, ab_e81_26, ab_e81_27, ab_e81_28, ab_e81_29, ab_e81_32, ab_e81_35, ab_e81_36, ab_e81_37, ab_e81_38, ab_e81_41, ab_e81_42, ab_e81_43, ab_e81_44, ab_e81_47, ab_e81_50, ab_e81_51, ab_e81_55, ab_e81_56, ab_e81_59, ab_e81_60, ab_e81_61, ab_e81_63, ab_e81_65, ab_e81_66, ab_e81_67, ab_e81_70, ab_e81_73, ab_e81_77, ab_e81_81, ab_e81_82, ab_e81_85, ab_e81_86, ab_e81_87, ab_e81_89, ab_e81_91, ab_e81_92, ab_e81_93, ab_e81_96, ab_e81_99, ab_e81_103, ab_e81_104, ab_e81_107, ab_br_t, ab_br_f, ab_re_v (ab_zz _), ab_re_n (ab_zz _)]
    refine bb_l81d (D := bb_row D 501 (bb_sw (D 501) b s (s - 1))) b0 b6 p0 p1 t0 t1 g (s + -1) (by omega) (by omega) (by rw [bb_row_eq, hD]; exact bb_sw_mv (by omega) (by omega) (by omega) (by omega) p0 p1 (.inr ⟨s0, rfl⟩)) (fun x => ?_)
    rw [bb_row_row]
    exact hR x
termination_by (s - t).toNat
decreasing_by all_goals omega

theorem bb_no81 {K : ab_Kt} {D : Nat → Int → Int} {L : Nat → Int → Int64} {z : ab_Z} {c : Int} (hw : bb_WS c (D 501)) {b p t : Int} (hb : ab_rg b) (hp : ab_rg p) (ht : ab_rg t) {r d : Int} (h : bb_sp_move (D 501) b p t = .inl (r, d)) : ab_cal K 81 [.ref 500, .int (ab_I b), .int (ab_I p), .int (ab_I t)] (ab_mk D L z) = some (.inl (some (.int (ab_I 0))), ab_mk (bb_ref D r d) L z) := by
  have n := bb_WS_n hw
  unfold bb_sp_move at h
  split at h
  · rename_i x hh
    cases h
    simp (discharger := first | assumption | exact True.intro | exact not_false | (refine ab_gK ?_; with_unfolding_all rfl) | exact ab_rgI (by omega) (by omega) | omega) only [ab_a81, bb_y167s hw hb hh, ab_e81_0, ab_e81_1, ab_e81_2, ab_e81_5, ab_e81_8, ab_e81_9, ab_e81_10, ab_e81_11, ab_e81_12, ab_e81_13, ab_e81_16, ab_e81_19, ab_e81_20, ab_e81_21, ab_e81_22, ab_e81_25, ab_e81_26, ab_e81_27, ab_e81_28, ab_e81_29, ab_e81_32, ab_e81_35, ab_e81_36, ab_e81_37, ab_e81_38, ab_e81_41, ab_e81_42, ab_e81_43, ab_e81_44, ab_e81_47, ab_e81_50, ab_e81_51, ab_e81_55, ab_e81_56, ab_e81_59, ab_e81_60, ab_e81_61, ab_e81_63, ab_e81_65, ab_e81_66, ab_e81_67, ab_e81_70, ab_e81_73, ab_e81_76, ab_e81_77, ab_e81_81, ab_e81_82, ab_e81_85, ab_e81_86, ab_e81_87, ab_e81_89, ab_e81_91, ab_e81_92, ab_e81_93, ab_e81_96, ab_e81_99, ab_e81_102, ab_e81_103, ab_e81_104, ab_e81_107, ab_br_t, ab_br_f, ab_re_v (ab_zz _), ab_re_n (ab_zz _)]
  · rename_i hh
    have hm := bb_held_n hh
    have hb9 := bb_WS_W hw hm.1.1 hm.1.2
    have hn := bb_WB_n hb9
    have b0 := hm.1.1
    have b6 : b < 6 := by omega
    have hI := bb_WS_IR hw hm.1.1 hm.1.2
    split at h
    · rename_i h1
      cases h
      simp (discharger := first | assumption | exact True.intro | exact not_false | (refine ab_gK ?_; with_unfolding_all rfl) | exact ab_rgI (by omega) (by omega) | omega) only [ab_a81, bb_y167n hw hb hh, ab_y134 b0 b6 hI, bb_y152, if_neg h1, ab_e81_0, ab_e81_1, ab_e81_2, ab_e81_5, ab_e81_8, ab_e81_9, ab_e81_10, ab_e81_11, ab_e81_12, ab_e81_13, ab_e81_16, ab_e81_19, ab_e81_20, ab_e81_21, ab_e81_22, ab_e81_25, ab_e81_26, ab_e81_27, ab_e81_28, ab_e81_29, ab_e81_32, ab_e81_35, ab_e81_36, ab_e81_37, ab_e81_38, ab_e81_41, ab_e81_42, ab_e81_43, ab_e81_44, ab_e81_47, ab_e81_50, ab_e81_51, ab_e81_55, ab_e81_56, ab_e81_59, ab_e81_60, ab_e81_61, ab_e81_63, ab_e81_65, ab_e81_66, ab_e81_67, ab_e81_70, ab_e81_73, ab_e81_76, ab_e81_77, ab_e81_81, ab_e81_82, ab_e81_85, ab_e81_86, ab_e81_87, ab_e81_89, ab_e81_91, ab_e81_92, ab_e81_93, ab_e81_96, ab_e81_99, ab_e81_102, ab_e81_103, ab_e81_104, ab_e81_107, ab_br_t, ab_br_f, ab_re_v (ab_zz _), ab_re_n (ab_zz _)]
    · rename_i h1
      have h1 := Decidable.not_not.mp h1
      split at h
      · rename_i h2
        cases h
        simp (discharger := first | assumption | exact True.intro | exact not_false | (refine ab_gK ?_; with_unfolding_all rfl) | exact ab_rgI (by omega) (by omega) | omega) only [ab_a81, bb_y167n hw hb hh, ab_y134 b0 b6 hI, bb_y152, if_pos h1, if_neg h2, ab_e81_0, ab_e81_1, ab_e81_2, ab_e81_5, ab_e81_8, ab_e81_9, ab_e81_10, ab_e81_11, ab_e81_12, ab_e81_13, ab_e81_16, ab_e81_19, ab_e81_20, ab_e81_21, ab_e81_22, ab_e81_25, ab_e81_26, ab_e81_27, ab_e81_28, ab_e81_29, ab_e81_32, ab_e81_35, ab_e81_36, ab_e81_37, ab_e81_38, ab_e81_41, ab_e81_42, ab_e81_43, ab_e81_44, ab_e81_47, ab_e81_50, ab_e81_51, ab_e81_55, ab_e81_56, ab_e81_59, ab_e81_60, ab_e81_61, ab_e81_63, ab_e81_65, ab_e81_66, ab_e81_67, ab_e81_70, ab_e81_73, ab_e81_76, ab_e81_77, ab_e81_81, ab_e81_82, ab_e81_85, ab_e81_86, ab_e81_87, ab_e81_89, ab_e81_91, ab_e81_92, ab_e81_93, ab_e81_96, ab_e81_99, ab_e81_102, ab_e81_103, ab_e81_104, ab_e81_107, ab_br_t, ab_br_f, ab_re_v (ab_zz _), ab_re_n (ab_zz _)]
      · cases h

theorem bb_ok81 {K : ab_Kt} {D : Nat → Int → Int} {L : Nat → Int → Int64} {z : ab_Z} {c : Int} (hw : bb_WS c (D 501)) (hk9 : bb_HK D) {b p t : Int} (hb : ab_rg b) (hp : ab_rg p) (ht : ab_rg t) {v : Int} {g' : Int → Int} (h : bb_sp_move (D 501) b p t = .inr (v, g')) : ab_cal K 81 [.ref 500, .int (ab_I b), .int (ab_I p), .int (ab_I t)] (ab_mk D L z) = some (.inl (some (.int (ab_I v))), ab_mk (bb_row (bb_keep D 501) 501 g') L z) := by
  have n := bb_WS_n hw
  have hsp := h
  unfold bb_sp_move at h
  split at h
  · rename_i x hh
    cases h
  · rename_i hh
    have hm := bb_held_n hh
    have hb9 := bb_WS_W hw hm.1.1 hm.1.2
    have hn := bb_WB_n hb9
    have b0 := hm.1.1
    have b6 : b < 6 := by omega
    have hI := bb_WS_IR hw hm.1.1 hm.1.2
    split at h
    · cases h
    · rename_i h1
      have h1 := Decidable.not_not.mp h1
      split at h
      · cases h
      · rename_i h2
        have h2 := Decidable.not_not.mp h2
        obtain ⟨hv, hg⟩ := Prod.mk.inj (Sum.inr.inj h)
        have hmv := bb_WB_mv hb9 h1.1 h1.2 h2.1 h2.2
        have hI2 : ab_IR (bb_mv (D 501) b p t) b := bb_WB_IR hmv (by omega)
        have hwr := ab_y105 (K := K) (D := bb_row (bb_keep D 501) 501 (bb_mv (D 501) b p t)) (L := L) (z := z) b0 b6 (by rw [bb_row_eq]; exact hI2)
        rw [bb_row_eq] at hwr
        rw [← hv, ← hg]
        simp (discharger := first | assumption | exact True.intro | exact not_false | (refine ab_gK ?_; with_unfolding_all rfl) | exact ab_rgI (by omega) (by omega) | omega) only [ab_a81, bb_y167n hw hb hh, ab_y134 b0 b6 hI, if_pos h1, if_pos h2, bb_keep_501, bb_row_eq, bb_row_row, bb_u_row, bb_y117 (.inl rfl) hk9.1 hk9.2, ab_e81_0, ab_e81_1, ab_e81_2, ab_e81_5, ab_e81_8, ab_e81_9, ab_e81_10, ab_e81_11, ab_e81_12, ab_e81_13, ab_e81_16, ab_e81_19, ab_e81_20, ab_e81_21, ab_e81_22, ab_e81_25, ab_e81_26, ab_e81_27, ab_e81_28, ab_e81_29, ab_e81_32, ab_e81_35, ab_e81_36, ab_e81_37, ab_e81_38, ab_e81_41, ab_e81_42, ab_e81_43, ab_e81_44, ab_e81_47, ab_e81_50, ab_e81_51, ab_e81_55, ab_e81_56, ab_e81_59, ab_e81_60, ab_e81_61, ab_e81_63, ab_e81_65, ab_e81_66, ab_e81_67, ab_e81_70, ab_e81_73, ab_e81_76, ab_e81_77, ab_e81_81, ab_e81_82, ab_e81_85, ab_e81_86, ab_e81_87, ab_e81_89, ab_e81_91, ab_e81_92, ab_e81_93, ab_e81_96, ab_e81_99, ab_e81_102, ab_e81_103, ab_e81_104, ab_e81_107, ab_br_t, ab_br_f, ab_re_v (ab_zz _), ab_re_n (ab_zz _)]
        refine bb_l81u b0 b6 h1.1 (by omega) h2.1 (by omega) (D 501) p (by omega) (by omega) (by rw [bb_keep_501, bb_mv_0]) (fun x => ?_)
        simp (discharger := first | assumption | exact True.intro | exact not_false | (refine ab_gK ?_; with_unfolding_all rfl) | exact ab_rgI (by omega) (by omega) | omega) only [ab_e81_0, ab_e81_1, ab_e81_2, ab_e81_5, ab_e81_8, ab_e81_9, ab_e81_10, ab_e81_11, ab_e81_12, ab_e81_13, ab_e81_16, ab_e81_19, ab_e81_20, ab_e81_21, ab_e81_22, ab_e81_25, ab_e81_26, ab_e81_27, ab_e81_28, ab_e81_29, ab_e81_32, ab_e81_35, ab_e81_36, ab_e81_37, ab_e81_38, ab_e81_41, ab_e81_42, ab_e81_43, ab_e81_44, ab_e81_47, ab_e81_50, ab_e81_51, ab_e81_55, ab_e81_56, ab_e81_59, ab_e81_60, ab_e81_61, ab_e81_63, ab_e81_65, ab_e81_66, ab_e81_67, ab_e81_70, ab_e81_73, ab_e81_76, ab_e81_77, ab_e81_81, ab_e81_82, ab_e81_85, ab_e81_86, ab_e81_87, ab_e81_89, ab_e81_91, ab_e81_92, ab_e81_93, ab_e81_96, ab_e81_99, ab_e81_102, ab_e81_103, ab_e81_104, ab_e81_107, ab_br_t, ab_br_f, ab_re_v (ab_zz _), ab_re_n (ab_zz _)]
        by_cases hpt : p ≤ t
        · have e1 : max p t = t := by omega
          rw [e1]
          by_cases hpt2 : p = t
          · subst hpt2
            refine bb_l81d b0 b6 h1.1 (by omega) h2.1 (by omega) (D 501) p (by omega) (by omega) bb_row_eq (fun x => ?_)
            rw [show min p p = p by omega, bb_row_row]
            simp (discharger := first | assumption | exact True.intro | exact not_false | (refine ab_gK ?_; with_unfolding_all rfl) | exact ab_rgI (by omega) (by omega) | omega) only [hwr, ab_e81_0, ab_e81_1, ab_e81_2, ab_e81_5, ab_e81_8, ab_e81_9, ab_e81_10, ab_e81_11, ab_e81_12, ab_e81_13, ab_e81_16, ab_e81_19, ab_e81_20, ab_e81_21, ab_e81_22, ab_e81_25, ab_e81_26, ab_e81_27, ab_e81_28, ab_e81_29, ab_e81_32, ab_e81_35, ab_e81_36, ab_e81_37, ab_e81_38, ab_e81_41, ab_e81_42, ab_e81_43, ab_e81_44, ab_e81_47, ab_e81_50, ab_e81_51, ab_e81_55, ab_e81_56, ab_e81_59, ab_e81_60, ab_e81_61, ab_e81_63, ab_e81_65, ab_e81_66, ab_e81_67, ab_e81_70, ab_e81_73, ab_e81_76, ab_e81_77, ab_e81_81, ab_e81_82, ab_e81_85, ab_e81_86, ab_e81_87, ab_e81_89, ab_e81_91, ab_e81_92, ab_e81_93, ab_e81_96, ab_e81_99, ab_e81_102, ab_e81_103, ab_e81_104, ab_e81_107, ab_br_t, ab_br_f, ab_re_v (ab_zz _), ab_re_n (ab_zz _)]
          · rw [ab_e81_79]
            simp (discharger := first | assumption | exact True.intro | exact not_false | (refine ab_gK ?_; with_unfolding_all rfl) | exact ab_rgI (by omega) (by omega) | omega) only [hwr, ab_e81_0, ab_e81_1, ab_e81_2, ab_e81_5, ab_e81_8, ab_e81_9, ab_e81_10, ab_e81_11, ab_e81_12, ab_e81_13, ab_e81_16, ab_e81_19, ab_e81_20, ab_e81_21, ab_e81_22, ab_e81_25, ab_e81_26, ab_e81_27, ab_e81_28, ab_e81_29, ab_e81_32, ab_e81_35, ab_e81_36, ab_e81_37, ab_e81_38, ab_e81_41, ab_e81_42, ab_e81_43, ab_e81_44, ab_e81_47, ab_e81_50, ab_e81_51, ab_e81_55, ab_e81_56, ab_e81_59, ab_e81_60, ab_e81_61, ab_e81_63, ab_e81_65, ab_e81_66, ab_e81_67, ab_e81_70, ab_e81_73, ab_e81_76, ab_e81_77, ab_e81_81, ab_e81_82, ab_e81_85, ab_e81_86, ab_e81_87, ab_e81_89, ab_e81_91, ab_e81_92, ab_e81_93, ab_e81_96, ab_e81_99, ab_e81_102, ab_e81_103, ab_e81_104, ab_e81_107, ab_br_t, ab_br_f, ab_re_v (ab_zz _), ab_re_n (ab_zz _)]
        · have e1 : max p t = p := by omega
          rw [e1]
          refine bb_l81d b0 b6 h1.1 (by omega) h2.1 (by omega) (D 501) p (by omega) (by omega) bb_row_eq (fun x => ?_)
          rw [show min p t = t by omega, bb_row_row]
          simp (discharger := first | assumption | exact True.intro | exact not_false | (refine ab_gK ?_; with_unfolding_all rfl) | exact ab_rgI (by omega) (by omega) | omega) only [hwr, ab_e81_0, ab_e81_1, ab_e81_2, ab_e81_5, ab_e81_8, ab_e81_9, ab_e81_10, ab_e81_11, ab_e81_12, ab_e81_13, ab_e81_16, ab_e81_19, ab_e81_20, ab_e81_21, ab_e81_22, ab_e81_25, ab_e81_26, ab_e81_27, ab_e81_28, ab_e81_29, ab_e81_32, ab_e81_35, ab_e81_36, ab_e81_37, ab_e81_38, ab_e81_41, ab_e81_42, ab_e81_43, ab_e81_44, ab_e81_47, ab_e81_50, ab_e81_51, ab_e81_55, ab_e81_56, ab_e81_59, ab_e81_60, ab_e81_61, ab_e81_63, ab_e81_65, ab_e81_66, ab_e81_67, ab_e81_70, ab_e81_73, ab_e81_76, ab_e81_77, ab_e81_81, ab_e81_82, ab_e81_85, ab_e81_86, ab_e81_87, ab_e81_89, ab_e81_91, ab_e81_92, ab_e81_93, ab_e81_96, ab_e81_99, ab_e81_102, ab_e81_103, ab_e81_104, ab_e81_107, ab_br_t, ab_br_f, ab_re_v (ab_zz _), ab_re_n (ab_zz _)]

theorem bb_l79 {K : ab_Kt} {D : Nat → Int → Int} {L : Nat → Int → Int64} {z : ab_Z} {b p t : Int} (b0 : 0 ≤ b) (b6 : b < 6) (p0 : 0 ≤ p) (p1 : p < 12) (t0 : 0 ≤ t) (t1 : t < 12) {R : Option (ab_O × ab_H)} (g : Int → Int) (s : Int) (s0 : p ≤ s) (s1 : s ≤ t) (hD : D 501 = bb_mv g b p s) (hR : ab_ev K 79 69 [some (.ref 500), some (.int (ab_I b)), some (.int (ab_I p)), some (.int (ab_I t)), some (.int (ab_I t))] [] (ab_mk (bb_row D 501 (bb_mv g b p t)) L z) = R) : ab_ev K 79 46 [some (.ref 500), some (.int (ab_I b)), some (.int (ab_I p)), some (.int (ab_I t)), some (.int (ab_I s))] [] (ab_mk D L z) = R := by
  rw [ab_e79_46]
  by_cases hk : t ≤ s
  · simp (discharger := first | assumption | exact True.intro | exact not_false | (refine ab_gK ?_; with_unfolding_all rfl) | exact ab_rgI (by omega) (by omega) | omega) only [ab_e79_0, ab_e79_1, ab_e79_2, ab_e79_5, ab_e79_8, ab_e79_9, ab_e79_10, ab_e79_11, ab_e79_12, ab_e79_13, ab_e79_16, ab_e79_19, ab_e79_20, ab_e79_21, ab_e79_22, ab_e79_25, ab_e79_26, ab_e79_27, ab_e79_28, ab_e79_31, ab_e79_34, ab_e79_35, ab_e79_36, ab_e79_37, ab_e79_40, ab_e79_41, ab_e79_42, ab_e79_43, ab_e79_44, ab_e79_48, ab_e79_49, ab_e79_52, ab_e79_53, ab_e79_54, ab_e79_56, ab_e79_58, ab_e79_59, ab_e79_60, ab_e79_63, ab_e79_66, ab_e79_70, ab_e79_71, ab_e79_72, ab_e79_73, ab_e79_74, ab_e79_75, ab_e79_78, ab_e79_79, ab_e79_80, ab_e79_81, ab_e79_82, ab_e79_85, ab_e79_86, ab_br_t, ab_br_f, ab_re_v (ab_zz _), ab_re_n (ab_zz _)]
    have ek : s = t := by omega
    rw [← ek, ← hD, bb_row_self] at hR
    rw [← ek]
    exact hR
  · simp (discharger := first | assumption | exact True.intro | exact not_false | (refine ab_gK ?_; with_unfolding_all rfl) | exact ab_rgI (by omega) (by omega) | omega) only [bb_y168, ab_e79_0, ab_e79_1, ab_e79_2, ab_e79_5, ab_e79_8, ab_e79_9, ab_e79_10, ab_e79_11, ab_e79_12, ab_e79_13, ab_e79_16, ab_e79_19, ab_e79_20, ab_e79_21, ab_e79_22, ab_e79_25, ab_e79_26, ab_e79_27, ab_e79_28, ab_e79_31, ab_e79_34, ab_e79_35, ab_e79_36, ab_e79_37, ab_e79_40, ab_e79_41, ab_e79_42, ab_e79_43, ab_e79_44, ab_e79_48, ab_e79_49, ab_e79_52, ab_e79_53, ab_e79_54, ab_e79_56, ab_e79_58, ab_e79_59, ab_e79_60, ab_e79_63, ab_e79_66, ab_e79_70, ab_e79_71, ab_e79_72, ab_e79_73, ab_e79_74, ab_e79_75, ab_e79_78, ab_e79_79, ab_e79_80, ab_e79_81, ab_e79_82, ab_e79_85, ab_e79_86, ab_br_t, ab_br_f, ab_re_v (ab_zz _), ab_re_n (ab_zz _)]
    refine bb_l79 (D := bb_row D 501 (bb_sw (D 501) b s (s + 1))) b0 b6 p0 p1 t0 t1 g (s + 1) (by omega) (by omega) (by rw [bb_row_eq, hD]; exact bb_sw_mv (by omega) (by omega) (by omega) (by omega) p0 p1 (.inl ⟨s0, rfl⟩)) ?_
    rw [bb_row_row]
    exact hR
termination_by (t - s).toNat
decreasing_by all_goals omega

theorem bb_no79 {K : ab_Kt} {D : Nat → Int → Int} {L : Nat → Int → Int64} {z : ab_Z} {c : Int} (hw : bb_WS c (D 501)) {b p : Int} (hb : ab_rg b) (hp : ab_rg p) {r d : Int} (h : bb_sp_drop (D 501) b p = .inl (r, d)) : ab_cal K 79 [.ref 500, .int (ab_I b), .int (ab_I p)] (ab_mk D L z) = some (.inl (some (.int (ab_I 0))), ab_mk (bb_ref D r d) L z) := by
  have n := bb_WS_n hw
  unfold bb_sp_drop at h
  split at h
  · rename_i x hh
    cases h
    simp (discharger := first | assumption | exact True.intro | exact not_false | (refine ab_gK ?_; with_unfolding_all rfl) | exact ab_rgI (by omega) (by omega) | omega) only [ab_a79, bb_y167s hw hb hh, ab_e79_0, ab_e79_1, ab_e79_2, ab_e79_5, ab_e79_8, ab_e79_9, ab_e79_10, ab_e79_11, ab_e79_12, ab_e79_13, ab_e79_16, ab_e79_19, ab_e79_20, ab_e79_21, ab_e79_22, ab_e79_25, ab_e79_26, ab_e79_27, ab_e79_28, ab_e79_31, ab_e79_34, ab_e79_35, ab_e79_36, ab_e79_37, ab_e79_40, ab_e79_41, ab_e79_42, ab_e79_43, ab_e79_44, ab_e79_48, ab_e79_49, ab_e79_52, ab_e79_53, ab_e79_54, ab_e79_56, ab_e79_58, ab_e79_59, ab_e79_60, ab_e79_63, ab_e79_66, ab_e79_69, ab_e79_70, ab_e79_71, ab_e79_72, ab_e79_73, ab_e79_74, ab_e79_75, ab_e79_78, ab_e79_79, ab_e79_80, ab_e79_81, ab_e79_82, ab_e79_85, ab_e79_86, ab_br_t, ab_br_f, ab_re_v (ab_zz _), ab_re_n (ab_zz _)]
  · rename_i hh
    have hm := bb_held_n hh
    have hb9 := bb_WS_W hw hm.1.1 hm.1.2
    have hn := bb_WB_n hb9
    have b0 := hm.1.1
    have b6 : b < 6 := by omega
    have hI := bb_WS_IR hw hm.1.1 hm.1.2
    split at h
    · rename_i h1
      cases h
      simp (discharger := first | assumption | exact True.intro | exact not_false | (refine ab_gK ?_; with_unfolding_all rfl) | exact ab_rgI (by omega) (by omega) | omega) only [ab_a79, bb_y167n hw hb hh, ab_y134 b0 b6 hI, bb_y152, if_neg h1, ab_e79_0, ab_e79_1, ab_e79_2, ab_e79_5, ab_e79_8, ab_e79_9, ab_e79_10, ab_e79_11, ab_e79_12, ab_e79_13, ab_e79_16, ab_e79_19, ab_e79_20, ab_e79_21, ab_e79_22, ab_e79_25, ab_e79_26, ab_e79_27, ab_e79_28, ab_e79_31, ab_e79_34, ab_e79_35, ab_e79_36, ab_e79_37, ab_e79_40, ab_e79_41, ab_e79_42, ab_e79_43, ab_e79_44, ab_e79_48, ab_e79_49, ab_e79_52, ab_e79_53, ab_e79_54, ab_e79_56, ab_e79_58, ab_e79_59, ab_e79_60, ab_e79_63, ab_e79_66, ab_e79_69, ab_e79_70, ab_e79_71, ab_e79_72, ab_e79_73, ab_e79_74, ab_e79_75, ab_e79_78, ab_e79_79, ab_e79_80, ab_e79_81, ab_e79_82, ab_e79_85, ab_e79_86, ab_br_t, ab_br_f, ab_re_v (ab_zz _), ab_re_n (ab_zz _)]
    · cases h

theorem bb_ok79 {K : ab_Kt} {D : Nat → Int → Int} {L : Nat → Int → Int64} {z : ab_Z} {c : Int} (hw : bb_WS c (D 501)) (hk9 : bb_HK D) {b p : Int} (hb : ab_rg b) (hp : ab_rg p) {v : Int} {g' : Int → Int} (h : bb_sp_drop (D 501) b p = .inr (v, g')) : ab_cal K 79 [.ref 500, .int (ab_I b), .int (ab_I p)] (ab_mk D L z) = some (.inl (some (.int (ab_I v))), ab_mk (bb_row (bb_keep D 501) 501 g') L z) := by
  have n := bb_WS_n hw
  unfold bb_sp_drop at h
  split at h
  · rename_i x hh
    cases h
  · rename_i hh
    have hm := bb_held_n hh
    have hb9 := bb_WS_W hw hm.1.1 hm.1.2
    have hn := bb_WB_n hb9
    have b0 := hm.1.1
    have b6 : b < 6 := by omega
    have hI := bb_WS_IR hw hm.1.1 hm.1.2
    split at h
    · cases h
    · rename_i h1
      have h1 := Decidable.not_not.mp h1
      obtain ⟨hv, hg⟩ := Prod.mk.inj (Sum.inr.inj h)
      rw [← hv, ← hg]
      simp (discharger := first | assumption | exact True.intro | exact not_false | (refine ab_gK ?_; with_unfolding_all rfl) | exact ab_rgI (by omega) (by omega) | omega) only [ab_a79, bb_y167n hw hb hh, ab_y134 b0 b6 hI, if_pos h1, ab_y110, bb_keep_501, bb_row_eq, bb_row_row, bb_u_row, bb_y117 (.inl rfl) hk9.1 hk9.2, ab_e79_0, ab_e79_1, ab_e79_2, ab_e79_5, ab_e79_8, ab_e79_9, ab_e79_10, ab_e79_11, ab_e79_12, ab_e79_13, ab_e79_16, ab_e79_19, ab_e79_20, ab_e79_21, ab_e79_22, ab_e79_25, ab_e79_26, ab_e79_27, ab_e79_28, ab_e79_31, ab_e79_34, ab_e79_35, ab_e79_36, ab_e79_37, ab_e79_40, ab_e79_41, ab_e79_42, ab_e79_43, ab_e79_44, ab_e79_48, ab_e79_49, ab_e79_52, ab_e79_53, ab_e79_54, ab_e79_56, ab_e79_58, ab_e79_59, ab_e79_60, ab_e79_63, ab_e79_66, ab_e79_69, ab_e79_70, ab_e79_71, ab_e79_72, ab_e79_73, ab_e79_74, ab_e79_75, ab_e79_78, ab_e79_79, ab_e79_80, ab_e79_81, ab_e79_82, ab_e79_85, ab_e79_86, ab_br_t, ab_br_f, ab_re_v (ab_zz _), ab_re_n (ab_zz _)]
      refine bb_l79 b0 b6 h1.1 (by omega) (by omega) (by omega) (D 501) p (by omega) (by omega) (by rw [bb_keep_501, bb_mv_0]) ?_
      simp (discharger := first | assumption | exact True.intro | exact not_false | (refine ab_gK ?_; with_unfolding_all rfl) | exact ab_rgI (by omega) (by omega) | omega) only [bb_y169, ab_y157, bb_keep_501, bb_row_eq, bb_row_row, bb_u_row, bb_y117 (.inl rfl) hk9.1 hk9.2, ab_e79_0, ab_e79_1, ab_e79_2, ab_e79_5, ab_e79_8, ab_e79_9, ab_e79_10, ab_e79_11, ab_e79_12, ab_e79_13, ab_e79_16, ab_e79_19, ab_e79_20, ab_e79_21, ab_e79_22, ab_e79_25, ab_e79_26, ab_e79_27, ab_e79_28, ab_e79_31, ab_e79_34, ab_e79_35, ab_e79_36, ab_e79_37, ab_e79_40, ab_e79_41, ab_e79_42, ab_e79_43, ab_e79_44, ab_e79_48, ab_e79_49, ab_e79_52, ab_e79_53, ab_e79_54, ab_e79_56, ab_e79_58, ab_e79_59, ab_e79_60, ab_e79_63, ab_e79_66, ab_e79_69, ab_e79_70, ab_e79_71, ab_e79_72, ab_e79_73, ab_e79_74, ab_e79_75, ab_e79_78, ab_e79_79, ab_e79_80, ab_e79_81, ab_e79_82, ab_e79_85, ab_e79_86, ab_br_t, ab_br_f, ab_re_v (ab_zz _), ab_re_n (ab_zz _)]

