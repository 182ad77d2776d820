/-! ===== the bench: refusals; one book changes ===== -/
def bb_cref (D : Nat → Int → Int) (r d : Int) : Nat → Int → Int := ab_u (ab_u (ab_u D 18 1 r) 18 2 d) 18 3 (D 18 4)
section
variable {K : ab_Kt} {D : Nat → Int → Int} {L : Nat → Int → Int64} {z : ab_Z} {c : Int} {g : Int → Int}
theorem bb_y256 {r d : Int} : ab_cal K 256 [.ref 18, .int (ab_I r), .int (ab_I d)] (ab_mk D L z) = some (.inl (some (.int (ab_I (-1)))), ab_mk (bb_cref D r d) L z) := by
  unfold bb_cref
  simp (discharger := first | assumption | exact True.intro | exact not_false | (refine ab_gK ?_; with_unfolding_all rfl) | exact ab_rgI (by omega) (by omega) | omega | (refine Or.inr ?_; decide)) only [ab_a256, ab_u_ne, ab_e256_0, ab_e256_1, ab_e256_2, ab_e256_5, ab_e256_6, ab_e256_7, ab_e256_10, ab_e256_11, ab_e256_12, ab_e256_15, ab_e256_18, ab_e256_19, ab_br_t, ab_br_f, ab_re_v (ab_zz _), ab_re_n (ab_zz _)]

theorem bb_y255 {v lo hi : Int} (hv : ab_rg v) (hl : ab_rg lo) (hh : ab_rg hi) : ab_cal K 255 [.int (ab_I v), .int (ab_I lo), .int (ab_I hi)] (ab_mk D L z) = some (.inl (some (.int (ab_I (if lo ≤ v ∧ v ≤ hi then 1 else 0)))), (ab_mk D L z)) := by
  simp (discharger := first | assumption | exact True.intro | exact not_false | (refine ab_gK ?_; with_unfolding_all rfl) | exact ab_rgI (by omega) (by omega) | omega) only [ab_a255, ab_e255_0, ab_e255_1, ab_e255_2, ab_e255_5, ab_e255_6, ab_e255_7, ab_e255_10, ab_e255_11, ab_e255_14, ab_e255_15, ab_br_t, ab_br_f, ab_re_v (ab_zz _), ab_re_n (ab_zz _)]
  iterate 2 (all_goals (try (refine ab_br_c (fun hc => ?_) (fun hc => ?_) <;> try simp (discharger := first | assumption | exact True.intro | exact not_false | (refine ab_gK ?_; with_unfolding_all rfl) | exact ab_rgI (by omega) (by omega) | omega) only [ab_a255, ab_e255_0, ab_e255_1, ab_e255_2, ab_e255_5, ab_e255_6, ab_e255_7, ab_e255_10, ab_e255_11, ab_e255_14, ab_e255_15, ab_br_t, ab_br_f, ab_re_v (ab_zz _), ab_re_n (ab_zz _)])))
  all_goals exact ab_fin (by first | rw [if_pos ⟨by omega, by omega⟩] | rw [if_neg (by omega)]) rfl

theorem bb_y258n (hw : bb_WS c g) (hk : bb_KS D L 19 g) {b st : Int} (hb : ab_rg b) (h : bb_at g b st = none) : ab_cal K 258 [.ref 18, .int (ab_I b), .int (ab_I st)] (ab_mk D L z) = some (.inl (some (.int (ab_I (0)))), (ab_mk D L z)) := by
  obtain ⟨hm, hs⟩ := bb_at_n h
  have n := bb_WS_n hw
  have hsp := ab_sp0
  have e2 := hk.1.1
  have hbk := ab_bk_bI hsp hm.1 (e := b) (by omega)
  have e3 := (hk.2.2.2.1 b hm.1 hm.2).1.2.2.1
  have hn := bb_WB_n (bb_WS_W hw hm.1 hm.2)
  simp (discharger := first | assumption | exact True.intro | exact not_false | (refine ab_gK ?_; with_unfolding_all rfl) | exact ab_rgI (by omega) (by omega) | omega) only [ab_a258, bb_y230 ab_sp0, e2, ab_e258_0, ab_e258_1, ab_e258_4, ab_e258_5, ab_e258_8, ab_e258_11, ab_e258_12, ab_e258_13, ab_e258_14, ab_e258_17, ab_e258_18, ab_e258_19, ab_e258_20, ab_e258_21, ab_e258_24, ab_e258_27, ab_e258_28, ab_e258_29, ab_e258_32, ab_e258_33, ab_e258_34, ab_e258_35, ab_e258_38, ab_e258_39, ab_e258_40, ab_e258_41, ab_e258_44, ab_e258_45, ab_e258_46, ab_e258_47, ab_e258_50, ab_e258_51, ab_e258_54, ab_e258_55, ab_br_t, ab_br_f, ab_re_v (ab_zz _), ab_re_n (ab_zz _)]

theorem bb_y258s (hw : bb_WS c g) (hk : bb_KS D L 19 g) {b st r d : Int} (hb : ab_rg b) (hst : ab_rg st) (h : bb_at g b st = some (r, d)) : ab_cal K 258 [.ref 18, .int (ab_I b), .int (ab_I st)] (ab_mk D L z) = some (.inl (some (.int (ab_I (1)))), ab_mk (bb_cref D r d) L z) := by
  have n := bb_WS_n hw
  have hsp := ab_sp0
  have e2 := hk.1.1
  rcases bb_at_s h with ⟨hm, hs, rfl, rfl⟩ | ⟨hm, rfl, rfl⟩
  · have hbk := ab_bk_bI hsp hm.1 (e := b) (by omega)
    have e3 := (hk.2.2.2.1 b hm.1 hm.2).1.2.2.1
    have hn := bb_WB_n (bb_WS_W hw hm.1 hm.2)
    simp (discharger := first | assumption | exact True.intro | exact not_false | (refine ab_gK ?_; with_unfolding_all rfl) | exact ab_rgI (by omega) (by omega) | omega) only [ab_a258, bb_y230 ab_sp0, e2, e3, bb_y256, ab_e258_0, ab_e258_1, ab_e258_4, ab_e258_5, ab_e258_8, ab_e258_11, ab_e258_12, ab_e258_13, ab_e258_14, ab_e258_17, ab_e258_18, ab_e258_19, ab_e258_20, ab_e258_21, ab_e258_24, ab_e258_27, ab_e258_28, ab_e258_29, ab_e258_32, ab_e258_33, ab_e258_34, ab_e258_35, ab_e258_38, ab_e258_39, ab_e258_40, ab_e258_41, ab_e258_44, ab_e258_45, ab_e258_46, ab_e258_47, ab_e258_50, ab_e258_51, ab_e258_54, ab_e258_55, ab_br_t, ab_br_f, ab_re_v (ab_zz _), ab_re_n (ab_zz _)]
  · skip
    simp (discharger := first | assumption | exact True.intro | exact not_false | (refine ab_gK ?_; with_unfolding_all rfl) | exact ab_rgI (by omega) (by omega) | omega) only [ab_a258, bb_y230 ab_sp0, e2, bb_y256, if_neg hm, ab_e258_0, ab_e258_1, ab_e258_4, ab_e258_5, ab_e258_8, ab_e258_11, ab_e258_12, ab_e258_13, ab_e258_14, ab_e258_17, ab_e258_18, ab_e258_19, ab_e258_20, ab_e258_21, ab_e258_24, ab_e258_27, ab_e258_28, ab_e258_29, ab_e258_32, ab_e258_33, ab_e258_34, ab_e258_35, ab_e258_38, ab_e258_39, ab_e258_40, ab_e258_41, ab_e258_44, ab_e258_45, ab_e258_46, ab_e258_47, ab_e258_50, ab_e258_51, ab_e258_54, ab_e258_55, ab_br_t, ab_br_f, ab_re_v (ab_zz _), ab_re_n (ab_zz _)]

theorem bb_y261n (hw : bb_WS c g) (hk : bb_KS D L 19 g) {b : Int} (hb : ab_rg b) (h : bb_held g b = none) : ab_cal K 261 [.ref 18, .int (ab_I b)] (ab_mk D L z) = some (.inl (some (.int (ab_I (0)))), (ab_mk D L z)) := by
  obtain ⟨hm, hs, h4⟩ := bb_held_n h
  have n := bb_WS_n hw
  have hsp := ab_sp0
  have ha : bb_at g b 0 = none := by unfold bb_at; rw [if_pos hm, if_pos hs]
  have hbk := ab_bk_bI hsp hm.1 (e := b) (by omega)
  have e4 := (hk.2.2.2.1 b hm.1 hm.2).1.2.2.2.2.1
  simp (discharger := first | assumption | exact True.intro | exact not_false | (refine ab_gK ?_; with_unfolding_all rfl) | exact ab_rgI (by omega) (by omega) | omega) only [ab_a261, bb_y258n hw hk hb ha, ab_e261_0, ab_e261_1, ab_e261_2, ab_e261_3, ab_e261_6, ab_e261_9, ab_e261_10, ab_e261_11, ab_e261_12, ab_e261_15, ab_e261_18, ab_e261_19, ab_e261_20, ab_e261_23, ab_e261_24, ab_e261_25, ab_e261_28, ab_e261_29, ab_e261_30, ab_e261_31, ab_e261_34, ab_e261_35, ab_e261_36, ab_e261_39, ab_e261_40, ab_e261_43, ab_e261_44, ab_br_t, ab_br_f, ab_re_v (ab_zz _), ab_re_n (ab_zz _)]

theorem bb_y261s (hw : bb_WS c g) (hk : bb_KS D L 19 g) {b r d : Int} (hb : ab_rg b) (h : bb_held g b = some (r, d)) : ab_cal K 261 [.ref 18, .int (ab_I b)] (ab_mk D L z) = some (.inl (some (.int (ab_I (1)))), ab_mk (bb_cref D r d) L z) := by
  have n := bb_WS_n hw
  have hsp := ab_sp0
  rcases bb_held_s h with ha | ⟨ha, h4, rfl, rfl⟩
  · skip
    simp (discharger := first | assumption | exact True.intro | exact not_false | (refine ab_gK ?_; with_unfolding_all rfl) | exact ab_rgI (by omega) (by omega) | omega) only [ab_a261, bb_y258s hw hk hb ab_rg0 ha, ab_e261_0, ab_e261_1, ab_e261_2, ab_e261_3, ab_e261_6, ab_e261_9, ab_e261_10, ab_e261_11, ab_e261_12, ab_e261_15, ab_e261_18, ab_e261_19, ab_e261_20, ab_e261_23, ab_e261_24, ab_e261_25, ab_e261_28, ab_e261_29, ab_e261_30, ab_e261_31, ab_e261_34, ab_e261_35, ab_e261_36, ab_e261_39, ab_e261_40, ab_e261_43, ab_e261_44, ab_br_t, ab_br_f, ab_re_v (ab_zz _), ab_re_n (ab_zz _)]
  · have hm := (bb_at_n ha).1
    have hbk := ab_bk_bI hsp hm.1 (e := b) (by omega)
    have e4 := (hk.2.2.2.1 b hm.1 hm.2).1.2.2.2.2.1
    have hn := bb_WB_n (bb_WS_W hw hm.1 hm.2)
    simp (discharger := first | assumption | exact True.intro | exact not_false | (refine ab_gK ?_; with_unfolding_all rfl) | exact ab_rgI (by omega) (by omega) | omega) only [ab_a261, bb_y258n hw hk hb ha, e4, bb_y256, ab_e261_0, ab_e261_1, ab_e261_2, ab_e261_3, ab_e261_6, ab_e261_9, ab_e261_10, ab_e261_11, ab_e261_12, ab_e261_15, ab_e261_18, ab_e261_19, ab_e261_20, ab_e261_23, ab_e261_24, ab_e261_25, ab_e261_28, ab_e261_29, ab_e261_30, ab_e261_31, ab_e261_34, ab_e261_35, ab_e261_36, ab_e261_39, ab_e261_40, ab_e261_43, ab_e261_44, ab_br_t, ab_br_f, ab_re_v (ab_zz _), ab_re_n (ab_zz _)]

theorem bb_KS_bk {D' : Nat → Int → Int} {L' : Nat → Int → Int64} {g' : Int → Int} (hw : bb_WS c g) (hk : bb_KS D L 19 g) {e : Int} (e0 : 0 ≤ e) (e1 : e < g 3) (h1 : D' 19 2 = g' 3 ∧ D' 19 3 = g' 0 ∧ D' 19 4 = g' 1 ∧ D' 19 5 = g' 2 ∧ D' 19 6 = g' 4 ∧ D' 19 7 = g' 5 ∧ D' 19 8 = g' 6 ∧ D' 19 9 = g' 7) (h2 : ∀ p, 0 ≤ p → p < 2 → D' (ab_pI 19 p) 1 = g' (8 + 4 * p) ∧ ∀ k, 0 ≤ k → k < 3 → D' (ab_pI 19 p + 1) k = g' (8 + 4 * p + 1 + k)) (h3 : bb_AB D' (ab_bI 19 e)) (h4 : bb_KB D' L' (ab_bI 19 e) g' e (g' 0)) (h5 : ∀ i, 22 ≤ i → i < 58 → (i < ab_bI 19 e ∨ ab_bI 19 e + 6 ≤ i) → D' i = D i ∧ L' i = L i) (h6 : ∀ e', 0 ≤ e' → e' < g 3 → e' ≠ e → ∀ w, 0 ≤ w → w < 51 → bb_R g e' w = bb_R g' e' w) (h7 : g' 3 = g 3) (h8 : g' 0 = g 0) : bb_KS D' L' 19 g' := by
  obtain ⟨k1, k2, k3, k4, k5⟩ := hk
  have n := bb_WS_n hw
  have be := bb_bI_e 19 e
  refine ⟨h1, h2, fun e' a d => ?_, fun e' a d => ?_, fun e' a d => ?_⟩
  · have be' := bb_bI_e 19 e'
    by_cases he : e' = e
    · subst he; exact h3
    · exact bb_AB_fr (k3 e' a d) (fun i x y => (h5 i (by omega) (by omega) (by omega)).1)
  · have be' := bb_bI_e 19 e'
    by_cases he : e' = e
    · subst he; exact h4
    · rw [h8]
      exact bb_KB_congr (fun i x y => h5 i (by omega) (by omega) (by omega)) (h6 e' a (by omega) he) (bb_WB_n (bb_WS_W hw a (by omega))).2.2.2.1.2 (k4 e' a (by omega))
  · have be' := bb_bI_e 19 e'
    exact bb_NB_fr (fun i x y => h5 i (by omega) (by omega) (by omega)) (k5 e' (by omega) d)
theorem bb_KB_f {D' : Nat → Int → Int} {L' : Nat → Int → Int64} {g' : Int → Int} {b : Nat} {e mn mn' : Int} (hn : bb_R g e 3 ≤ 12) (hk : bb_KB D L b g e mn) (hr : ∀ i, b + 1 ≤ i → i < b + 6 → D' i = D i ∧ L' i = L i) (h0 : D' b 0 = D b 0) (h1 : D' b 1 = D b 1) (h3 : D' b 3 = D b 3) (h5 : D' b 5 = D b 5) (ho : ∀ w, 0 ≤ w → w < 51 → w ≠ 2 → w ≠ 4 → w ≠ 5 → w ≠ 6 → bb_R g' e w = bb_R g e w) (h2 : D' b 2 = bb_R g' e 2) (h4 : D' b 4 = bb_R g' e 4) (h6 : D' b 6 = bb_R g' e 5) (h7 : D' b 7 = bb_nd g' e mn') : bb_KB D' L' b g' e mn' := by
  obtain ⟨⟨k0, k1, k2, k3, k4, k6⟩, k7, k5, ks, kl⟩ := hk
  have hsl : ∀ p, 0 ≤ p → p < 192 → bb_sl g' e p = bb_sl g e p := fun p p0 p1 => by
    unfold bb_sl
    rw [ho _ (by omega) (by omega) (by omega) (by omega) (by omega) (by omega)]
  refine ⟨⟨?_, ?_, h2, ?_, h4, h6⟩, h7, ?_, fun s s0 s1 => ?_, fun p p0 p1 => ?_⟩
  · rw [h0, k0]; exact (ho 0 (by omega) (by omega) (by omega) (by omega) (by omega) (by omega)).symm
  · rw [h1, k1]; exact (ho 1 (by omega) (by omega) (by omega) (by omega) (by omega) (by omega)).symm
  · rw [h3, k3]; exact (ho 3 (by omega) (by omega) (by omega) (by omega) (by omega) (by omega)).symm
  · rw [h5, k5]; exact ab_Scongr (fun i a d => (hsl i a d).symm)
  · rw [ho 3 (by omega) (by omega) (by omega) (by omega) (by omega) (by omega)] at s1
    rw [(hr (b + 1) (by omega) (by omega)).1, (hr (b + 2) (by omega) (by omega)).1, (hr (b + 3) (by omega) (by omega)).1, (hr (b + 4) (by omega) (by omega)).1, ho (7 + 3 * s + 0) (by omega) (by omega) (by omega) (by omega) (by omega) (by omega), ho (7 + 3 * s + 1) (by omega) (by omega) (by omega) (by omega) (by omega) (by omega), ho (7 + 3 * s + 2) (by omega) (by omega) (by omega) (by omega) (by omega) (by omega)]
    exact ks s s0 s1
  · rw [(hr (b + 5) (by omega) (by omega)).2, hsl p p0 p1]
    exact kl p p0 p1
theorem bb_AB_r {D' : Nat → Int → Int} {b : Nat} (h : bb_AB D b) (h1 : ∀ i, b + 1 ≤ i → i < b + 5 → D' i = D i) : bb_AB D' b := by
  intro s s0 s1
  rw [h1 (b + 1) (by omega) (by omega), h1 (b + 2) (by omega) (by omega), h1 (b + 3) (by omega) (by omega), h1 (b + 4) (by omega) (by omega)]
  exact h s s0 s1
end
