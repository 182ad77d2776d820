/-! ===== a book of the class: counts ===== -/
theorem ab_lf_rg {D : Nat → Int → Int} {b : Nat} (h : ab_IB D b) {s i : Int} (h0 : 0 ≤ s) (h1 : s < D b 3) (h2 : 0 ≤ i) (h3 : i < ab_sz D b s) : 1 ≤ ab_lf D b s i ∧ ab_lf D b s i ≤ 114 := by
  have he := ab_IB_e h h0 h1
  unfold ab_lf
  split <;> omega
theorem ab_page_rg {D : Nat → Int → Int} {b : Nat} (h : ab_IB D b) (p : Int) : (ab_page D b p = -1 ∧ (p < 0 ∨ ab_all D b ≤ p)) ∨ (1 ≤ ab_page D b p ∧ ab_page D b p ≤ 114 ∧ 0 ≤ p ∧ p < ab_all D b) := by
  have hn := ab_IB_n h
  by_cases hp : 0 ≤ p ∧ p < ab_all D b
  · obtain ⟨s, h0, h1, h2, h3⟩ := ab_place (f := ab_sz D b) hn.2.2.2.1.1 hp.1 hp.2
    have e := ab_page_at h h0 h1 (i := p - ab_S (ab_sz D b) s) (by omega) (by omega)
    have r := ab_lf_rg h h0 h1 (i := p - ab_S (ab_sz D b) s) (by omega) (by omega)
    rw [show ab_S (ab_sz D b) s + (p - ab_S (ab_sz D b) s) = p by omega] at e
    omega
  · left
    refine ⟨ab_pg_no hn.2.2.2.1.1 (ab_IB_s h) ?_, ?_⟩
    · show p < 0 ∨ ab_all D b ≤ p
      omega
    · omega
theorem ab_all_rg {D : Nat → Int → Int} {b : Nat} (h : ab_IB D b) : 0 ≤ ab_all D b ∧ ab_all D b ≤ 192 := by
  have hn := ab_IB_n h
  have := ab_IB_S h hn.2.2.2.1.1 (Int.le_refl _)
  unfold ab_all
  omega
theorem ab_wr_rg (D : Nat → Int → Int) (b : Nat) (p : Int) : 0 ≤ ab_wr D b p ∧ ab_wr D b p ≤ 1 := by unfold ab_wr; split <;> omega
def ab_wrong (D : Nat → Int → Int) (b : Nat) : Int := ab_S (ab_wr D b) (ab_all D b)
theorem ab_wrong_rg {D : Nat → Int → Int} {b : Nat} (h : ab_IB D b) : 0 ≤ ab_wrong D b ∧ ab_wrong D b ≤ ab_all D b := by
  have ha := ab_all_rg h
  have a := ab_Sle (f := ab_wr D b) (n := ab_all D b) 1 ha.1 (fun i _ _ => (ab_wr_rg D b i).2)
  have c := ab_Sge (f := ab_wr D b) (n := ab_all D b) 0 ha.1 (fun i _ _ => (ab_wr_rg D b i).1)
  unfold ab_wrong
  omega

theorem ab_y249 {K : ab_Kt} {D : Nat → Int → Int} {L : Nat → Int → Int64} {z : ab_Z} {b : Nat} (hb : ab_bk b) (hI : ab_IB D b) {p : Int} (hp : ab_rg p) : ab_cal K 249 [.ref b, .int (ab_I p)] (ab_mk D L z) = some (.inl (some (.int (ab_I (if 0 ≤ p ∧ p < ab_all D b then 1 else 0)))), (ab_mk D L z)) := by
  have hg := ab_page_rg hI p
  simp (discharger := first | assumption | exact True.intro | exact not_false | (refine ab_gK ?_; with_unfolding_all rfl) | exact ab_rgI (by omega) (by omega) | omega) only [ab_a249, ab_y214, ab_e249_0, ab_e249_1, ab_e249_2, ab_e249_5, ab_e249_6, ab_e249_9, ab_e249_10, ab_e249_13, ab_e249_14, ab_br_t, ab_br_f, ab_re_v (ab_zz _), ab_re_n (ab_zz _)]
  iterate 1 (all_goals (try (refine ab_br_c (fun hc => ?_) (fun hc => ?_) <;> try simp (discharger := first | assumption | exact True.intro | exact not_false | (refine ab_gK ?_; with_unfolding_all rfl) | exact ab_rgI (by omega) (by omega) | omega) only [ab_a249, ab_y214, ab_e249_0, ab_e249_1, ab_e249_2, ab_e249_5, ab_e249_6, ab_e249_9, ab_e249_10, ab_e249_13, ab_e249_14, ab_br_t, ab_br_f, ab_re_v (ab_zz _), ab_re_n (ab_zz _)])))
  all_goals exact ab_fin (by first | rw [if_pos (by omega)] | rw [if_neg (by omega)]) rfl

theorem ab_y259 {K : ab_Kt} {D : Nat → Int → Int} {L : Nat → Int → Int64} {z : ab_Z} {b : Nat} (hb : ab_bk b) (hI : ab_IB D b) {p : Int} (hp : ab_rg p) : ab_cal K 259 [.ref b, .int (ab_I p)] (ab_mk D L z) = some (.inl (some (.int (ab_I (if 0 ≤ p ∧ p < ab_all D b ∧ ab_wr D b p = 1 then 1 else 0)))), (ab_mk D L z)) := by
  have hg := ab_page_rg hI p
  have ha := ab_all_rg hI
  have hw : ab_wr D b p = if ab_page D b p = p + 1 ∧ ab_page D b p ≤ D b 0 then 0 else 1 := rfl
  by_cases hx : ab_page D b p = -1
  · simp (discharger := first | assumption | exact True.intro | exact not_false | (refine ab_gK ?_; with_unfolding_all rfl) | exact ab_rgI (by omega) (by omega) | omega) only [ab_a259, ab_y214, ab_e259_0, ab_e259_1, ab_e259_2, ab_e259_5, ab_e259_6, ab_e259_7, ab_e259_8, ab_e259_11, ab_e259_12, ab_e259_13, ab_e259_14, ab_e259_17, ab_e259_20, ab_e259_21, ab_e259_24, ab_e259_25, ab_br_t, ab_br_f, ab_re_v (ab_zz _), ab_re_n (ab_zz _)]
    exact ab_fin (by rw [if_neg (by omega)]) rfl
  · simp (discharger := first | assumption | exact True.intro | exact not_false | (refine ab_gK ?_; with_unfolding_all rfl) | exact ab_rgI (by omega) (by omega) | omega) only [ab_a259, ab_y214, ab_y233, ab_e259_0, ab_e259_1, ab_e259_2, ab_e259_5, ab_e259_6, ab_e259_7, ab_e259_8, ab_e259_11, ab_e259_12, ab_e259_13, ab_e259_14, ab_e259_17, ab_e259_20, ab_e259_21, ab_e259_24, ab_e259_25, ab_br_t, ab_br_f, ab_re_v (ab_zz _), ab_re_n (ab_zz _)]
    iterate 1 (all_goals (try (refine ab_br_c (fun hc => ?_) (fun hc => ?_) <;> try simp (discharger := first | assumption | exact True.intro | exact not_false | (refine ab_gK ?_; with_unfolding_all rfl) | exact ab_rgI (by omega) (by omega) | omega) only [ab_a259, ab_y214, ab_y233, ab_e259_0, ab_e259_1, ab_e259_2, ab_e259_5, ab_e259_6, ab_e259_7, ab_e259_8, ab_e259_11, ab_e259_12, ab_e259_13, ab_e259_14, ab_e259_17, ab_e259_20, ab_e259_21, ab_e259_24, ab_e259_25, ab_br_t, ab_br_f, ab_re_v (ab_zz _), ab_re_n (ab_zz _)])))
    all_goals exact ab_fin (by first | rw [if_pos (by omega)] | rw [if_neg (by omega)]) rfl

theorem ab_l184i {K : ab_Kt} {D : Nat → Int → Int} {L : Nat → Int → Int64} {z : ab_Z} {b : Nat} (hb : ab_bk b) (hI : ab_IB D b) (s : Int) (h0 : 0 ≤ s) (h1 : s < D b 3) (i w p : Int) (hi0 : 0 ≤ i) (hi1 : i ≤ ab_sz D b s) (hp : p = ab_S (ab_sz D b) s + i) (hw : w = ab_S (ab_wr D b) p) : ab_ev K 184 24 [some (.ref b), some (.int (ab_I w)), some (.int (ab_I p)), some (.int (ab_I s)), some (.int (ab_I (ab_sz D b s))), some (.int (ab_I i))] [] (ab_mk D L z) = ab_ev K 184 58 [some (.ref b), some (.int (ab_I (ab_S (ab_wr D b) (ab_S (ab_sz D b) (s + 1))))), some (.int (ab_I (ab_S (ab_sz D b) (s + 1)))), some (.int (ab_I s)), some (.int (ab_I (ab_sz D b s))), some (.int (ab_I (ab_sz D b s)))] [] (ab_mk D L z) := by
  have hn := ab_IB_n hI
  have he := ab_IB_e hI h0 h1
  have hS := ab_IB_S hI h0 (by omega)
  rw [ab_e184_24]
  by_cases hc : ab_sz D b s ≤ i
  · simp (discharger := first | assumption | exact True.intro | exact not_false | (refine ab_gK ?_; with_unfolding_all rfl) | exact ab_rgI (by omega) (by omega) | omega) only [ab_e184_0, ab_e184_1, ab_e184_2, ab_e184_3, ab_e184_4, ab_e184_5, ab_e184_6, ab_e184_7, ab_e184_8, ab_e184_11, ab_e184_14, ab_e184_15, ab_e184_16, ab_e184_19, ab_e184_21, ab_e184_22, ab_e184_26, ab_e184_28, ab_e184_31, ab_e184_32, ab_e184_33, ab_e184_34, ab_e184_35, ab_e184_37, ab_e184_40, ab_e184_43, ab_e184_46, ab_e184_49, ab_e184_52, ab_e184_55, ab_e184_61, ab_e184_64, ab_e184_65, ab_br_t, ab_br_f, ab_re_v (ab_zz _), ab_re_n (ab_zz _)]
    have e : i = ab_sz D b s := by omega
    rw [hw, hp, e, ab_S1 _ h0]
  · have hl := ab_lf_rg hI h0 h1 hi0 (by omega)
    have hwr : ab_wr D b p = if ab_lf D b s i = p + 1 ∧ ab_lf D b s i ≤ D b 0 then 0 else 1 := by
      unfold ab_wr
      rw [hp, ab_page_at hI h0 h1 hi0 (by omega)]
    simp (discharger := first | assumption | exact True.intro | exact not_false | (refine ab_gK ?_; with_unfolding_all rfl) | exact ab_rgI (by omega) (by omega) | omega) only [ab_y232, ab_y233, ab_e184_0, ab_e184_1, ab_e184_2, ab_e184_3, ab_e184_4, ab_e184_5, ab_e184_6, ab_e184_7, ab_e184_8, ab_e184_11, ab_e184_14, ab_e184_15, ab_e184_16, ab_e184_19, ab_e184_21, ab_e184_22, ab_e184_26, ab_e184_28, ab_e184_31, ab_e184_32, ab_e184_33, ab_e184_34, ab_e184_35, ab_e184_37, ab_e184_40, ab_e184_43, ab_e184_46, ab_e184_49, ab_e184_52, ab_e184_55, ab_e184_61, ab_e184_64, ab_e184_65, ab_br_t, ab_br_f, ab_re_v (ab_zz _), ab_re_n (ab_zz _)]
    iterate 1 (all_goals (try (refine ab_br_c (fun hc => ?_) (fun hc => ?_) <;> try simp (discharger := first | assumption | exact True.intro | exact not_false | (refine ab_gK ?_; with_unfolding_all rfl) | exact ab_rgI (by omega) (by omega) | omega) only [ab_y232, ab_y233, ab_e184_0, ab_e184_1, ab_e184_2, ab_e184_3, ab_e184_4, ab_e184_5, ab_e184_6, ab_e184_7, ab_e184_8, ab_e184_11, ab_e184_14, ab_e184_15, ab_e184_16, ab_e184_19, ab_e184_21, ab_e184_22, ab_e184_26, ab_e184_28, ab_e184_31, ab_e184_32, ab_e184_33, ab_e184_34, ab_e184_35, ab_e184_37, ab_e184_40, ab_e184_43, ab_e184_46, ab_e184_49, ab_e184_52, ab_e184_55, ab_e184_61, ab_e184_64, ab_e184_65, ab_br_t, ab_br_f, ab_re_v (ab_zz _), ab_re_n (ab_zz _)])))
    all_goals exact ab_l184i hb hI s h0 h1 (i + 1) _ _ (by omega) (by omega) (by omega) (by rw [ab_S1 (ab_wr D b) (n := p) (by omega), ← hw, hwr]; omega)
termination_by (ab_sz D b s - i).toNat
decreasing_by all_goals omega

theorem ab_l184 {K : ab_Kt} {D : Nat → Int → Int} {L : Nat → Int → Int64} {z : ab_Z} {b : Nat} (hb : ab_bk b) (hI : ab_IB D b) (x4 x5 : Option Value) (s w p : Int) (h0 : 0 ≤ s) (h1 : s ≤ D b 3) (hp : p = ab_S (ab_sz D b) s) (hw : w = ab_S (ab_wr D b) p) : ab_ev K 184 6 [some (.ref b), some (.int (ab_I w)), some (.int (ab_I p)), some (.int (ab_I s)), x4, x5] [] (ab_mk D L z) = some (.inl (some (.int (ab_I (ab_wrong D b)))), (ab_mk D L z)) := by
  have hn := ab_IB_n hI
  rw [ab_e184_6]
  by_cases hc : D b 3 ≤ s
  · simp (discharger := first | assumption | exact True.intro | exact not_false | (refine ab_gK ?_; with_unfolding_all rfl) | exact ab_rgI (by omega) (by omega) | omega) only [ab_e184_0, ab_e184_1, ab_e184_2, ab_e184_3, ab_e184_4, ab_e184_5, ab_e184_7, ab_e184_8, ab_e184_11, ab_e184_14, ab_e184_15, ab_e184_16, ab_e184_19, ab_e184_21, ab_e184_22, ab_e184_26, ab_e184_28, ab_e184_31, ab_e184_32, ab_e184_33, ab_e184_34, ab_e184_35, ab_e184_37, ab_e184_40, ab_e184_43, ab_e184_46, ab_e184_49, ab_e184_52, ab_e184_55, ab_e184_58, ab_e184_61, ab_e184_64, ab_e184_65, ab_br_t, ab_br_f, ab_re_v (ab_zz _), ab_re_n (ab_zz _)]
    exact ab_fin (by rw [hw, hp, show s = D b 3 by omega]; rfl) rfl
  · have he := ab_IB_e hI h0 (by omega)
    simp (discharger := first | assumption | exact True.intro | exact not_false | (refine ab_gK ?_; with_unfolding_all rfl) | exact ab_rgI (by omega) (by omega) | omega) only [ab_y231, ab_e184_0, ab_e184_1, ab_e184_2, ab_e184_3, ab_e184_4, ab_e184_5, ab_e184_7, ab_e184_8, ab_e184_11, ab_e184_14, ab_e184_15, ab_e184_16, ab_e184_19, ab_e184_21, ab_e184_22, ab_e184_26, ab_e184_28, ab_e184_31, ab_e184_32, ab_e184_33, ab_e184_34, ab_e184_35, ab_e184_37, ab_e184_40, ab_e184_43, ab_e184_46, ab_e184_49, ab_e184_52, ab_e184_55, ab_e184_58, ab_e184_61, ab_e184_64, ab_e184_65, ab_br_t, ab_br_f, ab_re_v (ab_zz _), ab_re_n (ab_zz _)]
    rw [ab_l184i hb hI s h0 (by omega) 0 w p (by omega) (by omega) (by omega) hw]
    simp (discharger := first | assumption | exact True.intro | exact not_false | (refine ab_gK ?_; with_unfolding_all rfl) | exact ab_rgI (by omega) (by omega) | omega) only [ab_e184_0, ab_e184_1, ab_e184_2, ab_e184_3, ab_e184_4, ab_e184_5, ab_e184_7, ab_e184_8, ab_e184_11, ab_e184_14, ab_e184_15, ab_e184_16, ab_e184_19, ab_e184_21, ab_e184_22, ab_e184_26, ab_e184_28, ab_e184_31, ab_e184_32, ab_e184_33, ab_e184_34, ab_e184_35, ab_e184_37, ab_e184_40, ab_e184_43, ab_e184_46, ab_e184_49, ab_e184_52, ab_e184_55, ab_e184_58, ab_e184_61, ab_e184_64, ab_e184_65, ab_br_t, ab_br_f, ab_re_v (ab_zz _), ab_re_n (ab_zz _)]
    exact ab_l184 hb hI _ _ (s + 1) _ _ (by omega) (by omega) rfl rfl
termination_by (D b 3 - s).toNat
decreasing_by all_goals omega

theorem ab_y184 {K : ab_Kt} {D : Nat → Int → Int} {L : Nat → Int → Int64} {z : ab_Z} {b : Nat} (hb : ab_bk b) (hI : ab_IB D b) : ab_cal K 184 [.ref b] (ab_mk D L z) = some (.inl (some (.int (ab_I (ab_wrong D b)))), (ab_mk D L z)) := by
  have hn := ab_IB_n hI
  simp (discharger := first | assumption | exact True.intro | exact not_false | (refine ab_gK ?_; with_unfolding_all rfl) | exact ab_rgI (by omega) (by omega) | omega) only [ab_a184, ab_e184_0, ab_e184_1, ab_e184_2, ab_e184_3, ab_e184_4, ab_e184_5, ab_e184_7, ab_e184_8, ab_e184_11, ab_e184_14, ab_e184_15, ab_e184_16, ab_e184_19, ab_e184_21, ab_e184_22, ab_e184_24, ab_e184_26, ab_e184_28, ab_e184_31, ab_e184_32, ab_e184_33, ab_e184_34, ab_e184_35, ab_e184_37, ab_e184_40, ab_e184_43, ab_e184_46, ab_e184_49, ab_e184_52, ab_e184_55, ab_e184_58, ab_e184_61, ab_e184_64, ab_e184_65, ab_br_t, ab_br_f, ab_re_v (ab_zz _), ab_re_n (ab_zz _)]
  exact ab_l184 hb hI _ _ 0 0 0 (by omega) (by omega) rfl rfl

def ab_ru (D : Nat → Int → Int) (b : Nat) (s st : Int) : Int := if D (b + 1) s = st + 1 then max 0 (min (ab_sz D b s) (D b 0 - st)) else 0
def ab_rt (D : Nat → Int → Int) (b : Nat) (s st : Int) : Int := if 0 ≤ D (b + 2) s - (st + 1) ∧ (D (b + 2) s - (st + 1)) % 2 = 0 ∧ (D (b + 2) s - (st + 1)) / 2 < ab_sz D b s ∧ D (b + 2) s - (D (b + 2) s - (st + 1)) / 2 ≤ D b 0 then 1 else 0
def ab_rc (D : Nat → Int → Int) (b : Nat) (s : Int) : Int := if D (b + 4) s = 0 then ab_ru D b s (ab_S (ab_sz D b) s) else ab_rt D b s (ab_S (ab_sz D b) s)

theorem ab_y254 {K : ab_Kt} {D : Nat → Int → Int} {L : Nat → Int → Int64} {z : ab_Z} {b : Nat} (hb : ab_bk b) (hI : ab_IB D b) {s st : Int} (h0 : 0 ≤ s) (h1 : s < D b 3) (h2 : 0 ≤ st) (h3 : st ≤ 192) : ab_cal K 254 [.ref b, .int (ab_I s), .int (ab_I st)] (ab_mk D L z) = some (.inl (some (.int (ab_I (ab_ru D b s st)))), (ab_mk D L z)) := by
  have hn := ab_IB_n hI
  have he := ab_IB_e hI h0 h1
  simp (discharger := first | assumption | exact True.intro | exact not_false | (refine ab_gK ?_; with_unfolding_all rfl) | exact ab_rgI (by omega) (by omega) | omega) only [ab_a254, ab_y231, ab_e254_0, ab_e254_1, ab_e254_4, ab_e254_5, ab_e254_6, ab_e254_7, ab_e254_8, ab_e254_9, ab_e254_12, ab_e254_13, ab_e254_14, ab_e254_15, ab_e254_16, ab_e254_17, ab_e254_20, ab_e254_21, ab_e254_24, ab_e254_25, ab_e254_26, ab_e254_29, ab_e254_32, ab_br_t, ab_br_f, ab_re_v (ab_zz _), ab_re_n (ab_zz _)]
  iterate 1 (all_goals (try (refine ab_br_c (fun hc => ?_) (fun hc => ?_) <;> try simp (discharger := first | assumption | exact True.intro | exact not_false | (refine ab_gK ?_; with_unfolding_all rfl) | exact ab_rgI (by omega) (by omega) | omega) only [ab_a254, ab_y231, ab_e254_0, ab_e254_1, ab_e254_4, ab_e254_5, ab_e254_6, ab_e254_7, ab_e254_8, ab_e254_9, ab_e254_12, ab_e254_13, ab_e254_14, ab_e254_15, ab_e254_16, ab_e254_17, ab_e254_20, ab_e254_21, ab_e254_24, ab_e254_25, ab_e254_26, ab_e254_29, ab_e254_32, ab_br_t, ab_br_f, ab_re_v (ab_zz _), ab_re_n (ab_zz _)])))
  · exact ab_fin (by unfold ab_ru; rw [if_pos hc]) rfl
  · exact ab_fin (by unfold ab_ru; rw [if_neg hc]) rfl

theorem ab_y253 {K : ab_Kt} {D : Nat → Int → Int} {L : Nat → Int → Int64} {z : ab_Z} {b : Nat} (hb : ab_bk b) (hI : ab_IB D b) {s st : Int} (h0 : 0 ≤ s) (h1 : s < D b 3) (h2 : 0 ≤ st) (h3 : st ≤ 192) : ab_cal K 253 [.ref b, .int (ab_I s), .int (ab_I st)] (ab_mk D L z) = some (.inl (some (.int (ab_I (ab_rt D b s st)))), (ab_mk D L z)) := by
  have hn := ab_IB_n hI
  have he := ab_IB_e hI h0 h1
  simp (discharger := first | assumption | exact True.intro | exact not_false | (refine ab_gK ?_; with_unfolding_all rfl) | exact ab_rgI (by omega) (by omega) | omega) only [ab_a253, ab_y231, ab_e253_0, ab_e253_1, ab_e253_4, ab_e253_5, ab_e253_6, ab_e253_7, ab_e253_8, ab_e253_9, ab_e253_10, ab_e253_11, ab_e253_12, ab_e253_15, ab_e253_16, ab_e253_17, ab_e253_18, ab_e253_21, ab_e253_22, ab_e253_23, ab_e253_24, ab_e253_25, ab_e253_26, ab_e253_28, ab_e253_30, ab_e253_31, ab_e253_32, ab_e253_35, ab_e253_38, ab_e253_39, ab_e253_42, ab_e253_43, ab_e253_44, ab_e253_46, ab_e253_47, ab_e253_48, ab_e253_51, ab_e253_54, ab_e253_55, ab_e253_58, ab_e253_59, ab_br_t, ab_br_f, ab_re_v (ab_zz _), ab_re_n (ab_zz _)]
  iterate 4 (all_goals (try (refine ab_br_c (fun hc => ?_) (fun hc => ?_) <;> try simp (discharger := first | assumption | exact True.intro | exact not_false | (refine ab_gK ?_; with_unfolding_all rfl) | exact ab_rgI (by omega) (by omega) | omega) only [ab_a253, ab_y231, ab_e253_0, ab_e253_1, ab_e253_4, ab_e253_5, ab_e253_6, ab_e253_7, ab_e253_8, ab_e253_9, ab_e253_10, ab_e253_11, ab_e253_12, ab_e253_15, ab_e253_16, ab_e253_17, ab_e253_18, ab_e253_21, ab_e253_22, ab_e253_23, ab_e253_24, ab_e253_25, ab_e253_26, ab_e253_28, ab_e253_30, ab_e253_31, ab_e253_32, ab_e253_35, ab_e253_38, ab_e253_39, ab_e253_42, ab_e253_43, ab_e253_44, ab_e253_46, ab_e253_47, ab_e253_48, ab_e253_51, ab_e253_54, ab_e253_55, ab_e253_58, ab_e253_59, ab_br_t, ab_br_f, ab_re_v (ab_zz _), ab_re_n (ab_zz _)])))
  all_goals exact ab_fin (by unfold ab_rt; first | rw [if_pos ⟨by omega, by omega, by omega, by omega⟩] | rw [if_neg (by omega)]) rfl

theorem ab_l213 {K : ab_Kt} {D : Nat → Int → Int} {L : Nat → Int → Int64} {z : ab_Z} {b : Nat} (hb : ab_bk b) (hI : ab_IB D b) (s r st : Int) (h0 : 0 ≤ s) (h1 : s ≤ D b 3) (hp : st = ab_S (ab_sz D b) s) (hw : r = ab_S (ab_rc D b) s) : ab_ev K 213 6 [some (.ref b), some (.int (ab_I r)), some (.int (ab_I st)), some (.int (ab_I s))] [] (ab_mk D L z) = some (.inl (some (.int (ab_I (ab_all D b - ab_S (ab_rc D b) (D b 3))))), (ab_mk D L z)) := by
  have hn := ab_IB_n hI
  have hS := ab_IB_S hI h0 h1
  rw [ab_e213_6]
  by_cases hc : D b 3 ≤ s
  · simp (discharger := first | assumption | exact True.intro | exact not_false | (refine ab_gK ?_; with_unfolding_all rfl) | exact ab_rgI (by omega) (by omega) | omega) only [ab_e213_0, ab_e213_1, ab_e213_2, ab_e213_3, ab_e213_4, ab_e213_5, ab_e213_7, ab_e213_8, ab_e213_11, ab_e213_14, ab_e213_15, ab_e213_16, ab_e213_19, ab_e213_20, ab_e213_21, ab_e213_24, ab_e213_25, ab_e213_26, ab_e213_27, ab_e213_30, ab_e213_33, ab_e213_34, ab_e213_35, ab_e213_36, ab_e213_39, ab_e213_40, ab_e213_41, ab_e213_42, ab_e213_43, ab_e213_44, ab_e213_47, ab_e213_48, ab_e213_49, ab_e213_52, ab_e213_55, ab_e213_56, ab_e213_57, ab_e213_58, ab_br_t, ab_br_f, ab_re_v (ab_zz _), ab_re_n (ab_zz _)]
    exact ab_fin (by rw [hw, hp, show s = D b 3 by omega]; rfl) rfl
  · have he := ab_IB_e hI h0 (by omega)
    have hrc : ab_rc D b s = if D (b + 4) s = 0 then ab_ru D b s st else ab_rt D b s st := by rw [hp]; rfl
    by_cases hd : D (b + 4) s = 0
    · simp (discharger := first | assumption | exact True.intro | exact not_false | (refine ab_gK ?_; with_unfolding_all rfl) | exact ab_rgI (by omega) (by omega) | omega) only [ab_y231, ab_y253, ab_y254, ab_e213_0, ab_e213_1, ab_e213_2, ab_e213_3, ab_e213_4, ab_e213_5, ab_e213_7, ab_e213_8, ab_e213_11, ab_e213_14, ab_e213_15, ab_e213_16, ab_e213_19, ab_e213_20, ab_e213_21, ab_e213_24, ab_e213_25, ab_e213_26, ab_e213_27, ab_e213_30, ab_e213_33, ab_e213_34, ab_e213_35, ab_e213_36, ab_e213_39, ab_e213_40, ab_e213_41, ab_e213_42, ab_e213_43, ab_e213_44, ab_e213_47, ab_e213_48, ab_e213_49, ab_e213_52, ab_e213_55, ab_e213_56, ab_e213_57, ab_e213_58, ab_br_t, ab_br_f, ab_re_v (ab_zz _), ab_re_n (ab_zz _)]
      exact ab_l213 hb hI (s + 1) _ _ (by omega) (by omega) (by rw [ab_S1 _ h0, hp]) (by rw [ab_S1 _ h0, hw, hrc, if_pos hd])
    · simp (discharger := first | assumption | exact True.intro | exact not_false | (refine ab_gK ?_; with_unfolding_all rfl) | exact ab_rgI (by omega) (by omega) | omega) only [ab_y231, ab_y253, ab_y254, ab_e213_0, ab_e213_1, ab_e213_2, ab_e213_3, ab_e213_4, ab_e213_5, ab_e213_7, ab_e213_8, ab_e213_11, ab_e213_14, ab_e213_15, ab_e213_16, ab_e213_19, ab_e213_20, ab_e213_21, ab_e213_24, ab_e213_25, ab_e213_26, ab_e213_27, ab_e213_30, ab_e213_33, ab_e213_34, ab_e213_35, ab_e213_36, ab_e213_39, ab_e213_40, ab_e213_41, ab_e213_42, ab_e213_43, ab_e213_44, ab_e213_47, ab_e213_48, ab_e213_49, ab_e213_52, ab_e213_55, ab_e213_56, ab_e213_57, ab_e213_58, ab_br_t, ab_br_f, ab_re_v (ab_zz _), ab_re_n (ab_zz _)]
      exact ab_l213 hb hI (s + 1) _ _ (by omega) (by omega) (by rw [ab_S1 _ h0, hp]) (by rw [ab_S1 _ h0, hw, hrc, if_neg hd])
termination_by (D b 3 - s).toNat
decreasing_by all_goals omega

theorem ab_y213 {K : ab_Kt} {D : Nat → Int → Int} {L : Nat → Int → Int64} {z : ab_Z} {b : Nat} (hb : ab_bk b) (hI : ab_IB D b) : ab_cal K 213 [.ref b] (ab_mk D L z) = some (.inl (some (.int (ab_I (ab_all D b - ab_S (ab_rc D b) (D b 3))))), (ab_mk D L z)) := by
  have hn := ab_IB_n hI
  simp (discharger := first | assumption | exact True.intro | exact not_false | (refine ab_gK ?_; with_unfolding_all rfl) | exact ab_rgI (by omega) (by omega) | omega) only [ab_a213, ab_e213_0, ab_e213_1, ab_e213_2, ab_e213_3, ab_e213_4, ab_e213_5, ab_e213_7, ab_e213_8, ab_e213_11, ab_e213_14, ab_e213_15, ab_e213_16, ab_e213_19, ab_e213_20, ab_e213_21, ab_e213_24, ab_e213_25, ab_e213_26, ab_e213_27, ab_e213_30, ab_e213_33, ab_e213_34, ab_e213_35, ab_e213_36, ab_e213_39, ab_e213_40, ab_e213_41, ab_e213_42, ab_e213_43, ab_e213_44, ab_e213_47, ab_e213_48, ab_e213_49, ab_e213_52, ab_e213_55, ab_e213_56, ab_e213_57, ab_e213_58, ab_br_t, ab_br_f, ab_re_v (ab_zz _), ab_re_n (ab_zz _)]
  exact ab_l213 hb hI 0 0 0 (by omega) (by omega) rfl rfl

/-- how many signatures have the page; whether the page j + 1 is missing; how many are -/
def ab_cw (D : Nat → Int → Int) (b : Nat) (q : Int) : Int := ab_S (fun s => if D (b + 1) s ≤ q ∧ q ≤ D (b + 2) s then 1 else 0) (D b 3)
def ab_mm (D : Nat → Int → Int) (b : Nat) (j : Int) : Int := if ab_cw D b (j + 1) = 0 then 1 else 0
def ab_miss (D : Nat → Int → Int) (b : Nat) : Int := ab_S (ab_mm D b) (D b 0)
theorem ab_cw_rg {D : Nat → Int → Int} {b : Nat} (h : ab_IB D b) (q : Int) : 0 ≤ ab_cw D b q ∧ ab_cw D b q ≤ 12 := by
  have hn := ab_IB_n h
  have a := ab_Sle (f := fun s => if D (b + 1) s ≤ q ∧ q ≤ D (b + 2) s then 1 else 0) (n := D b 3) 1 hn.2.2.2.1.1 (fun i _ _ => by split <;> omega)
  have c := ab_Sge (f := fun s => if D (b + 1) s ≤ q ∧ q ≤ D (b + 2) s then 1 else 0) (n := D b 3) 0 hn.2.2.2.1.1 (fun i _ _ => by split <;> omega)
  unfold ab_cw
  omega
theorem ab_mmS_rg {D : Nat → Int → Int} {b : Nat} {j : Int} (h : 0 ≤ j) : 0 ≤ ab_S (ab_mm D b) j ∧ ab_S (ab_mm D b) j ≤ j := by
  have a := ab_Sle (f := ab_mm D b) (n := j) 1 h (fun i _ _ => by unfold ab_mm; split <;> omega)
  have c := ab_Sge (f := ab_mm D b) (n := j) 0 h (fun i _ _ => by unfold ab_mm; split <;> omega)
  omega

theorem ab_l252 {K : ab_Kt} {D : Nat → Int → Int} {L : Nat → Int → Int64} {z : ab_Z} {b : Nat} (hb : ab_bk b) (hI : ab_IB D b) (q : Int) (hq : ab_rg q) (s c : Int) (h0 : 0 ≤ s) (h1 : s ≤ D b 3) (hw : c = ab_S (fun s => if D (b + 1) s ≤ q ∧ q ≤ D (b + 2) s then 1 else 0) s) : ab_ev K 252 4 [some (.ref b), some (.int (ab_I q)), some (.int (ab_I c)), some (.int (ab_I s))] [] (ab_mk D L z) = some (.inl (some (.int (ab_I (ab_cw D b q)))), (ab_mk D L z)) := by
  have hn := ab_IB_n hI
  rw [ab_e252_4]
  by_cases hc : D b 3 ≤ s
  · simp (discharger := first | assumption | exact True.intro | exact not_false | (refine ab_gK ?_; with_unfolding_all rfl) | exact ab_rgI (by omega) (by omega) | omega) only [ab_e252_0, ab_e252_1, ab_e252_2, ab_e252_3, ab_e252_5, ab_e252_6, ab_e252_9, ab_e252_12, ab_e252_13, ab_e252_14, ab_e252_17, ab_e252_18, ab_e252_19, ab_e252_22, ab_e252_23, ab_e252_24, ab_e252_27, ab_e252_28, ab_e252_29, ab_e252_32, ab_e252_35, ab_e252_38, ab_e252_41, ab_e252_42, ab_br_t, ab_br_f, ab_re_v (ab_zz _), ab_re_n (ab_zz _)]
    exact ab_fin (by rw [hw, show s = D b 3 by omega]; rfl) rfl
  · have he := ab_IB_e hI h0 (by omega)
    simp (discharger := first | assumption | exact True.intro | exact not_false | (refine ab_gK ?_; with_unfolding_all rfl) | exact ab_rgI (by omega) (by omega) | omega) only [ab_e252_0, ab_e252_1, ab_e252_2, ab_e252_3, ab_e252_5, ab_e252_6, ab_e252_9, ab_e252_12, ab_e252_13, ab_e252_14, ab_e252_17, ab_e252_18, ab_e252_19, ab_e252_22, ab_e252_23, ab_e252_24, ab_e252_27, ab_e252_28, ab_e252_29, ab_e252_32, ab_e252_35, ab_e252_38, ab_e252_41, ab_e252_42, ab_br_t, ab_br_f, ab_re_v (ab_zz _), ab_re_n (ab_zz _)]
    iterate 2 (all_goals (try (refine ab_br_c (fun hc => ?_) (fun hc => ?_) <;> try simp (discharger := first | assumption | exact True.intro | exact not_false | (refine ab_gK ?_; with_unfolding_all rfl) | exact ab_rgI (by omega) (by omega) | omega) only [ab_e252_0, ab_e252_1, ab_e252_2, ab_e252_3, ab_e252_5, ab_e252_6, ab_e252_9, ab_e252_12, ab_e252_13, ab_e252_14, ab_e252_17, ab_e252_18, ab_e252_19, ab_e252_22, ab_e252_23, ab_e252_24, ab_e252_27, ab_e252_28, ab_e252_29, ab_e252_32, ab_e252_35, ab_e252_38, ab_e252_41, ab_e252_42, ab_br_t, ab_br_f, ab_re_v (ab_zz _), ab_re_n (ab_zz _)])))
    all_goals exact ab_l252 hb hI q hq (s + 1) _ (by omega) (by omega) (by rw [ab_S1 _ h0, ← hw]; first | rw [if_pos (by omega)] | rw [if_neg (by omega), Int.add_zero])
termination_by (D b 3 - s).toNat
decreasing_by all_goals omega

theorem ab_y252 {K : ab_Kt} {D : Nat → Int → Int} {L : Nat → Int → Int64} {z : ab_Z} {b : Nat} (hb : ab_bk b) (hI : ab_IB D b) {q : Int} (hq : ab_rg q) : ab_cal K 252 [.ref b, .int (ab_I q)] (ab_mk D L z) = some (.inl (some (.int (ab_I (ab_cw D b q)))), (ab_mk D L z)) := by
  have hn := ab_IB_n hI
  simp (discharger := first | assumption | exact True.intro | exact not_false | (refine ab_gK ?_; with_unfolding_all rfl) | exact ab_rgI (by omega) (by omega) | omega) only [ab_a252, ab_e252_0, ab_e252_1, ab_e252_2, ab_e252_3, ab_e252_5, ab_e252_6, ab_e252_9, ab_e252_12, ab_e252_13, ab_e252_14, ab_e252_17, ab_e252_18, ab_e252_19, ab_e252_22, ab_e252_23, ab_e252_24, ab_e252_27, ab_e252_28, ab_e252_29, ab_e252_32, ab_e252_35, ab_e252_38, ab_e252_41, ab_e252_42, ab_br_t, ab_br_f, ab_re_v (ab_zz _), ab_re_n (ab_zz _)]
  exact ab_l252 hb hI q hq 0 0 (by omega) (by omega) rfl

theorem ab_l211 {K : ab_Kt} {D : Nat → Int → Int} {L : Nat → Int → Int64} {z : ab_Z} {b : Nat} (hb : ab_bk b) (hI : ab_IB D b) (j p c : Int) (h0 : 0 ≤ j) (h1 : j ≤ D b 0) (hp : p = j + 1) (hw : c = ab_S (ab_mm D b) j) : ab_ev K 211 4 [some (.ref b), some (.int (ab_I c)), some (.int (ab_I p))] [] (ab_mk D L z) = some (.inl (some (.int (ab_I (ab_miss D b)))), (ab_mk D L z)) := by
  have hn := ab_IB_n hI
  have hcw := ab_cw_rg hI p
  have hmm : ab_mm D b j = if ab_cw D b p = 0 then 1 else 0 := by rw [hp]; rfl
  rw [ab_e211_4]
  by_cases hc : D b 0 ≤ j
  · simp (discharger := first | assumption | exact True.intro | exact not_false | (refine ab_gK ?_; with_unfolding_all rfl) | exact ab_rgI (by omega) (by omega) | omega) only [ab_e211_0, ab_e211_1, ab_e211_2, ab_e211_3, ab_e211_5, ab_e211_6, ab_e211_9, ab_e211_12, ab_e211_13, ab_e211_14, ab_e211_17, ab_e211_20, ab_e211_23, ab_e211_26, ab_e211_29, ab_e211_30, ab_br_t, ab_br_f, ab_re_v (ab_zz _), ab_re_n (ab_zz _)]
    exact ab_fin (by rw [hw, show j = D b 0 by omega]; rfl) rfl
  · simp (discharger := first | assumption | exact True.intro | exact not_false | (refine ab_gK ?_; with_unfolding_all rfl) | exact ab_rgI (by omega) (by omega) | omega) only [ab_y252, ab_e211_0, ab_e211_1, ab_e211_2, ab_e211_3, ab_e211_5, ab_e211_6, ab_e211_9, ab_e211_12, ab_e211_13, ab_e211_14, ab_e211_17, ab_e211_20, ab_e211_23, ab_e211_26, ab_e211_29, ab_e211_30, ab_br_t, ab_br_f, ab_re_v (ab_zz _), ab_re_n (ab_zz _)]
    iterate 1 (all_goals (try (refine ab_br_c (fun hc => ?_) (fun hc => ?_) <;> try simp (discharger := first | assumption | exact True.intro | exact not_false | (refine ab_gK ?_; with_unfolding_all rfl) | exact ab_rgI (by omega) (by omega) | omega) only [ab_y252, ab_e211_0, ab_e211_1, ab_e211_2, ab_e211_3, ab_e211_5, ab_e211_6, ab_e211_9, ab_e211_12, ab_e211_13, ab_e211_14, ab_e211_17, ab_e211_20, ab_e211_23, ab_e211_26, ab_e211_29, ab_e211_30, ab_br_t, ab_br_f, ab_re_v (ab_zz _), ab_re_n (ab_zz _)])))
    all_goals exact ab_l211 hb hI (j + 1) _ _ (by omega) (by omega) (by omega) (by rw [ab_S1 _ h0, ← hw, hmm]; first | rw [if_pos (by assumption)] | rw [if_neg (by assumption), Int.add_zero])
termination_by (D b 0 - j).toNat
decreasing_by all_goals omega

theorem ab_y211 {K : ab_Kt} {D : Nat → Int → Int} {L : Nat → Int → Int64} {z : ab_Z} {b : Nat} (hb : ab_bk b) (hI : ab_IB D b) : ab_cal K 211 [.ref b] (ab_mk D L z) = some (.inl (some (.int (ab_I (ab_miss D b)))), (ab_mk D L z)) := by
  have hn := ab_IB_n hI
  simp (discharger := first | assumption | exact True.intro | exact not_false | (refine ab_gK ?_; with_unfolding_all rfl) | exact ab_rgI (by omega) (by omega) | omega) only [ab_a211, ab_e211_0, ab_e211_1, ab_e211_2, ab_e211_3, ab_e211_5, ab_e211_6, ab_e211_9, ab_e211_12, ab_e211_13, ab_e211_14, ab_e211_17, ab_e211_20, ab_e211_23, ab_e211_26, ab_e211_29, ab_e211_30, ab_br_t, ab_br_f, ab_re_v (ab_zz _), ab_re_n (ab_zz _)]
  exact ab_l211 hb hI 0 1 0 (by omega) (by omega) rfl rfl

def ab_mg (D : Nat → Int → Int) (b : Nat) (a j : Int) : Int := if ab_cw D b (j + 1) = 0 ∧ ab_S (ab_mm D b) j = a then 1 else 0
def ab_mp9 (D : Nat → Int → Int) (b : Nat) (a : Int) : Int := if ab_ff (ab_mg D b a) (D b 0) = -1 then -1 else ab_ff (ab_mg D b a) (D b 0) + 1

theorem ab_l210 {K : ab_Kt} {D : Nat → Int → Int} {L : Nat → Int → Int64} {z : ab_Z} {b : Nat} (hb : ab_bk b) (hI : ab_IB D b) (a : Int) (ha : ab_rg a) (j p c : Int) (h0 : 0 ≤ j) (h1 : j ≤ D b 0) (hp : p = j + 1) (hw : c = ab_S (ab_mm D b) j) (hg : ∀ i, 0 ≤ i → i < j → ab_mg D b a i ≠ 1) : ab_ev K 210 4 [some (.ref b), some (.int (ab_I a)), some (.int (ab_I c)), some (.int (ab_I p))] [] (ab_mk D L z) = some (.inl (some (.int (ab_I (ab_mp9 D b a)))), (ab_mk D L z)) := by
  have hn := ab_IB_n hI
  have hcw := ab_cw_rg hI p
  have hms := ab_mmS_rg (D := D) (b := b) h0
  have hmm : ab_mm D b j = if ab_cw D b p = 0 then 1 else 0 := by rw [hp]; rfl
  have hmg : ab_mg D b a j = if ab_cw D b p = 0 ∧ c = a then 1 else 0 := by rw [hp, hw]; rfl
  rw [ab_e210_4]
  by_cases hc : D b 0 ≤ j
  · simp (discharger := first | assumption | exact True.intro | exact not_false | (refine ab_gK ?_; with_unfolding_all rfl) | exact ab_rgI (by omega) (by omega) | omega) only [ab_e210_0, ab_e210_1, ab_e210_2, ab_e210_3, ab_e210_5, ab_e210_6, ab_e210_9, ab_e210_12, ab_e210_13, ab_e210_14, ab_e210_17, ab_e210_20, ab_e210_21, ab_e210_22, ab_e210_25, ab_e210_26, ab_e210_27, ab_e210_30, ab_e210_33, ab_e210_36, ab_e210_37, ab_br_t, ab_br_f, ab_re_v (ab_zz _), ab_re_n (ab_zz _)]
    exact ab_fin (by unfold ab_mp9; rw [ab_ff_no (by omega) (by rw [show D b 0 = j by omega]; exact hg), if_pos rfl]) rfl
  · have hgn : ∀ x : ab_mg D b a j ≠ 1, ∀ i, 0 ≤ i → i < j + 1 → ab_mg D b a i ≠ 1 := by
      intro x i i0 i1
      by_cases hij : i = j
      · rw [hij]; exact x
      · exact hg i i0 (by omega)
    simp (discharger := first | assumption | exact True.intro | exact not_false | (refine ab_gK ?_; with_unfolding_all rfl) | exact ab_rgI (by omega) (by omega) | omega) only [ab_y252, ab_e210_0, ab_e210_1, ab_e210_2, ab_e210_3, ab_e210_5, ab_e210_6, ab_e210_9, ab_e210_12, ab_e210_13, ab_e210_14, ab_e210_17, ab_e210_20, ab_e210_21, ab_e210_22, ab_e210_25, ab_e210_26, ab_e210_27, ab_e210_30, ab_e210_33, ab_e210_36, ab_e210_37, ab_br_t, ab_br_f, ab_re_v (ab_zz _), ab_re_n (ab_zz _)]
    iterate 2 (all_goals (try (refine ab_br_c (fun hc => ?_) (fun hc => ?_) <;> try simp (discharger := first | assumption | exact True.intro | exact not_false | (refine ab_gK ?_; with_unfolding_all rfl) | exact ab_rgI (by omega) (by omega) | omega) only [ab_y252, ab_e210_0, ab_e210_1, ab_e210_2, ab_e210_3, ab_e210_5, ab_e210_6, ab_e210_9, ab_e210_12, ab_e210_13, ab_e210_14, ab_e210_17, ab_e210_20, ab_e210_21, ab_e210_22, ab_e210_25, ab_e210_26, ab_e210_27, ab_e210_30, ab_e210_33, ab_e210_36, ab_e210_37, ab_br_t, ab_br_f, ab_re_v (ab_zz _), ab_re_n (ab_zz _)])))
    all_goals first
      | exact ab_fin (by unfold ab_mp9; rw [ab_ff_at h0 (by omega) hg (by rw [hmg, if_pos (by omega)]), if_neg (by omega)]; omega) rfl
      | exact ab_l210 hb hI a ha (j + 1) _ _ (by omega) (by omega) (by omega) (by rw [ab_S1 _ h0, ← hw, hmm]; first | rw [if_pos (by assumption)] | rw [if_neg (by assumption), Int.add_zero]) (hgn (by rw [hmg, if_neg (by omega)]; decide))
termination_by (D b 0 - j).toNat
decreasing_by all_goals omega

theorem ab_y210 {K : ab_Kt} {D : Nat → Int → Int} {L : Nat → Int → Int64} {z : ab_Z} {b : Nat} (hb : ab_bk b) (hI : ab_IB D b) {a : Int} (ha : ab_rg a) : ab_cal K 210 [.ref b, .int (ab_I a)] (ab_mk D L z) = some (.inl (some (.int (ab_I (ab_mp9 D b a)))), (ab_mk D L z)) := by
  have hn := ab_IB_n hI
  simp (discharger := first | assumption | exact True.intro | exact not_false | (refine ab_gK ?_; with_unfolding_all rfl) | exact ab_rgI (by omega) (by omega) | omega) only [ab_a210, ab_e210_0, ab_e210_1, ab_e210_2, ab_e210_3, ab_e210_5, ab_e210_6, ab_e210_9, ab_e210_12, ab_e210_13, ab_e210_14, ab_e210_17, ab_e210_20, ab_e210_21, ab_e210_22, ab_e210_25, ab_e210_26, ab_e210_27, ab_e210_30, ab_e210_33, ab_e210_36, ab_e210_37, ab_br_t, ab_br_f, ab_re_v (ab_zz _), ab_re_n (ab_zz _)]
  exact ab_l210 hb hI a ha 0 1 0 (by omega) (by omega) rfl rfl (fun i _ _ => by omega)

def ab_tw (D : Nat → Int → Int) (b : Nat) (j : Int) : Int := if 2 ≤ ab_cw D b (j + 1) then 1 else 0

theorem ab_l209 {K : ab_Kt} {D : Nat → Int → Int} {L : Nat → Int → Int64} {z : ab_Z} {b : Nat} (hb : ab_bk b) (hI : ab_IB D b) (j p c : Int) (h0 : 0 ≤ j) (h1 : j ≤ 114) (hp : p = j + 1) (hw : c = ab_S (ab_tw D b) j) : ab_ev K 209 4 [some (.ref b), some (.int (ab_I c)), some (.int (ab_I p))] [] (ab_mk D L z) = some (.inl (some (.int (ab_I (ab_S (ab_tw D b) 114)))), (ab_mk D L z)) := by
  have hcw := ab_cw_rg hI p
  have hmm : ab_tw D b j = if 2 ≤ ab_cw D b p then 1 else 0 := by rw [hp]; rfl
  rw [ab_e209_4]
  by_cases hc : 114 ≤ j
  · simp (discharger := first | assumption | exact True.intro | exact not_false | (refine ab_gK ?_; with_unfolding_all rfl) | exact ab_rgI (by omega) (by omega) | omega) only [ab_e209_0, ab_e209_1, ab_e209_2, ab_e209_3, ab_e209_5, ab_e209_7, ab_e209_10, ab_e209_11, ab_e209_12, ab_e209_15, ab_e209_16, ab_e209_19, ab_e209_22, ab_e209_25, ab_e209_28, ab_e209_29, ab_br_t, ab_br_f, ab_re_v (ab_zz _), ab_re_n (ab_zz _)]
    exact ab_fin (by rw [hw, show j = 114 by omega]) rfl
  · simp (discharger := first | assumption | exact True.intro | exact not_false | (refine ab_gK ?_; with_unfolding_all rfl) | exact ab_rgI (by omega) (by omega) | omega) only [ab_y252, ab_e209_0, ab_e209_1, ab_e209_2, ab_e209_3, ab_e209_5, ab_e209_7, ab_e209_10, ab_e209_11, ab_e209_12, ab_e209_15, ab_e209_16, ab_e209_19, ab_e209_22, ab_e209_25, ab_e209_28, ab_e209_29, ab_br_t, ab_br_f, ab_re_v (ab_zz _), ab_re_n (ab_zz _)]
    iterate 1 (all_goals (try (refine ab_br_c (fun hc => ?_) (fun hc => ?_) <;> try simp (discharger := first | assumption | exact True.intro | exact not_false | (refine ab_gK ?_; with_unfolding_all rfl) | exact ab_rgI (by omega) (by omega) | omega) only [ab_y252, ab_e209_0, ab_e209_1, ab_e209_2, ab_e209_3, ab_e209_5, ab_e209_7, ab_e209_10, ab_e209_11, ab_e209_12, ab_e209_15, ab_e209_16, ab_e209_19, ab_e209_22, ab_e209_25, ab_e209_28, ab_e209_29, ab_br_t, ab_br_f, ab_re_v (ab_zz _), ab_re_n (ab_zz _)])))
    all_goals exact ab_l209 hb hI (j + 1) _ _ (by omega) (by omega) (by omega) (by rw [ab_S1 _ h0, ← hw, hmm]; first | rw [if_pos (by omega)] | rw [if_neg (by omega), Int.add_zero])
termination_by (114 - j).toNat
decreasing_by all_goals omega

theorem ab_y209 {K : ab_Kt} {D : Nat → Int → Int} {L : Nat → Int → Int64} {z : ab_Z} {b : Nat} (hb : ab_bk b) (hI : ab_IB D b) : ab_cal K 209 [.ref b] (ab_mk D L z) = some (.inl (some (.int (ab_I (ab_S (ab_tw D b) 114)))), (ab_mk D L z)) := by
  simp (discharger := first | assumption | exact True.intro | exact not_false | (refine ab_gK ?_; with_unfolding_all rfl) | exact ab_rgI (by omega) (by omega) | omega) only [ab_a209, ab_e209_0, ab_e209_1, ab_e209_2, ab_e209_3, ab_e209_5, ab_e209_7, ab_e209_10, ab_e209_11, ab_e209_12, ab_e209_15, ab_e209_16, ab_e209_19, ab_e209_22, ab_e209_25, ab_e209_28, ab_e209_29, ab_br_t, ab_br_f, ab_re_v (ab_zz _), ab_re_n (ab_zz _)]
  exact ab_l209 hb hI 0 1 0 (by omega) (by omega) rfl rfl

def ab_pa (D : Nat → Int → Int) (b : Nat) (s o : Int) : Int := if D (b + 1) o < D (b + 1) s ∨ (D (b + 1) o = D (b + 1) s ∧ o < s) then 1 else 0

theorem ab_l208 {K : ab_Kt} {D : Nat → Int → Int} {L : Nat → Int → Int64} {z : ab_Z} {b : Nat} (hb : ab_bk b) (hI : ab_IB D b) (s : Int) (s0 : 0 ≤ s) (s1 : s < D b 3) (x4 : Option Value) (o c : Int) (h0 : 0 ≤ o) (h1 : o ≤ D b 3) (hw : c = ab_S (ab_pa D b s) o) : ab_ev K 208 4 [some (.ref b), some (.int (ab_I s)), some (.int (ab_I c)), some (.int (ab_I o)), x4] [] (ab_mk D L z) = some (.inl (some (.int (ab_I (ab_S (ab_pa D b s) (D b 3))))), (ab_mk D L z)) := by
  have hn := ab_IB_n hI
  have hs := ab_IB_e hI s0 s1
  rw [ab_e208_4]
  by_cases hc : D b 3 ≤ o
  · simp (discharger := first | assumption | exact True.intro | exact not_false | (refine ab_gK ?_; with_unfolding_all rfl) | exact ab_rgI (by omega) (by omega) | omega) only [ab_e208_0, ab_e208_1, ab_e208_2, ab_e208_3, ab_e208_5, ab_e208_6, ab_e208_9, ab_e208_12, ab_e208_13, ab_e208_16, ab_e208_17, ab_e208_18, ab_e208_19, ab_e208_22, ab_e208_23, ab_e208_24, ab_e208_27, ab_e208_28, ab_e208_31, ab_e208_32, ab_e208_34, ab_e208_35, ab_e208_38, ab_e208_39, ab_e208_40, ab_e208_41, ab_e208_44, ab_e208_45, ab_e208_46, ab_e208_49, ab_e208_51, ab_e208_54, ab_e208_55, ab_e208_56, ab_e208_59, ab_e208_62, ab_e208_65, ab_e208_68, ab_e208_69, ab_br_t, ab_br_f, ab_re_v (ab_zz _), ab_re_n (ab_zz _)]
    exact ab_fin (by rw [hw, show o = D b 3 by omega]) rfl
  · have he := ab_IB_e hI h0 (by omega)
    simp (discharger := first | assumption | exact True.intro | exact not_false | (refine ab_gK ?_; with_unfolding_all rfl) | exact ab_rgI (by omega) (by omega) | omega) only [ab_e208_0, ab_e208_1, ab_e208_2, ab_e208_3, ab_e208_5, ab_e208_6, ab_e208_9, ab_e208_12, ab_e208_13, ab_e208_16, ab_e208_17, ab_e208_18, ab_e208_19, ab_e208_22, ab_e208_23, ab_e208_24, ab_e208_27, ab_e208_28, ab_e208_31, ab_e208_32, ab_e208_34, ab_e208_35, ab_e208_38, ab_e208_39, ab_e208_40, ab_e208_41, ab_e208_44, ab_e208_45, ab_e208_46, ab_e208_49, ab_e208_51, ab_e208_54, ab_e208_55, ab_e208_56, ab_e208_59, ab_e208_62, ab_e208_65, ab_e208_68, ab_e208_69, ab_br_t, ab_br_f, ab_re_v (ab_zz _), ab_re_n (ab_zz _)]
    iterate 4 (all_goals (try (refine ab_br_c (fun hc => ?_) (fun hc => ?_) <;> try simp (discharger := first | assumption | exact True.intro | exact not_false | (refine ab_gK ?_; with_unfolding_all rfl) | exact ab_rgI (by omega) (by omega) | omega) only [ab_e208_0, ab_e208_1, ab_e208_2, ab_e208_3, ab_e208_5, ab_e208_6, ab_e208_9, ab_e208_12, ab_e208_13, ab_e208_16, ab_e208_17, ab_e208_18, ab_e208_19, ab_e208_22, ab_e208_23, ab_e208_24, ab_e208_27, ab_e208_28, ab_e208_31, ab_e208_32, ab_e208_34, ab_e208_35, ab_e208_38, ab_e208_39, ab_e208_40, ab_e208_41, ab_e208_44, ab_e208_45, ab_e208_46, ab_e208_49, ab_e208_51, ab_e208_54, ab_e208_55, ab_e208_56, ab_e208_59, ab_e208_62, ab_e208_65, ab_e208_68, ab_e208_69, ab_br_t, ab_br_f, ab_re_v (ab_zz _), ab_re_n (ab_zz _)])))
    all_goals exact ab_l208 hb hI s s0 s1 _ (o + 1) _ (by omega) (by omega) (by rw [ab_S1 _ h0, ← hw]; unfold ab_pa; first | rw [if_pos (by omega)] | rw [if_neg (by omega), Int.add_zero])
termination_by (D b 3 - o).toNat
decreasing_by all_goals omega

theorem ab_y208 {K : ab_Kt} {D : Nat → Int → Int} {L : Nat → Int → Int64} {z : ab_Z} {b : Nat} (hb : ab_bk b) (hI : ab_IB D b) {s : Int} (s0 : 0 ≤ s) (s1 : s < D b 3) : ab_cal K 208 [.ref b, .int (ab_I s)] (ab_mk D L z) = some (.inl (some (.int (ab_I (ab_S (ab_pa D b s) (D b 3))))), (ab_mk D L z)) := by
  have hn := ab_IB_n hI
  simp (discharger := first | assumption | exact True.intro | exact not_false | (refine ab_gK ?_; with_unfolding_all rfl) | exact ab_rgI (by omega) (by omega) | omega) only [ab_a208, ab_e208_0, ab_e208_1, ab_e208_2, ab_e208_3, ab_e208_5, ab_e208_6, ab_e208_9, ab_e208_12, ab_e208_13, ab_e208_16, ab_e208_17, ab_e208_18, ab_e208_19, ab_e208_22, ab_e208_23, ab_e208_24, ab_e208_27, ab_e208_28, ab_e208_31, ab_e208_32, ab_e208_34, ab_e208_35, ab_e208_38, ab_e208_39, ab_e208_40, ab_e208_41, ab_e208_44, ab_e208_45, ab_e208_46, ab_e208_49, ab_e208_51, ab_e208_54, ab_e208_55, ab_e208_56, ab_e208_59, ab_e208_62, ab_e208_65, ab_e208_68, ab_e208_69, ab_br_t, ab_br_f, ab_re_v (ab_zz _), ab_re_n (ab_zz _)]
  exact ab_l208 hb hI s s0 s1 _ 0 0 (by omega) (by omega) rfl

def ab_th (D : Nat → Int → Int) (b : Nat) (s : Int) : Int := if s = 0 then D b 1 * (2 + D (b + 3) s) + 5 else D b 1 * (2 + D (b + 3) s)

theorem ab_y250 {K : ab_Kt} {D : Nat → Int → Int} {L : Nat → Int → Int64} {z : ab_Z} {b : Nat} (hb : ab_bk b) {s : Int} (h0 : 0 ≤ s) (h1 : s < 12) : ab_cal K 250 [.ref b, .int (ab_I s)] (ab_mk D L z) = some (.inl (some (.int (ab_I (ab_th D b s)))), (ab_mk D L z)) := by
  simp (discharger := first | assumption | exact True.intro | exact not_false | (refine ab_gK ?_; with_unfolding_all rfl) | exact ab_rgI (by omega) (by omega) | omega) only [ab_a250, ab_e250_0, ab_e250_1, ab_e250_4, ab_e250_5, ab_e250_6, ab_e250_9, ab_e250_10, ab_e250_11, ab_e250_12, ab_e250_13, ab_e250_14, ab_e250_15, ab_e250_18, ab_e250_19, ab_e250_20, ab_e250_21, ab_e250_24, ab_e250_25, ab_br_t, ab_br_f, ab_re_v (ab_zz _), ab_re_n (ab_zz _)]
  iterate 1 (all_goals (try (refine ab_br_c (fun hc => ?_) (fun hc => ?_) <;> try simp (discharger := first | assumption | exact True.intro | exact not_false | (refine ab_gK ?_; with_unfolding_all rfl) | exact ab_rgI (by omega) (by omega) | omega) only [ab_a250, ab_e250_0, ab_e250_1, ab_e250_4, ab_e250_5, ab_e250_6, ab_e250_9, ab_e250_10, ab_e250_11, ab_e250_12, ab_e250_13, ab_e250_14, ab_e250_15, ab_e250_18, ab_e250_19, ab_e250_20, ab_e250_21, ab_e250_24, ab_e250_25, ab_br_t, ab_br_f, ab_re_v (ab_zz _), ab_re_n (ab_zz _)])))
  · exact ab_fin (by unfold ab_th; rw [if_pos hc]) rfl
  · exact ab_fin (by unfold ab_th; rw [if_neg hc]) rfl

theorem ab_l206 {K : ab_Kt} {D : Nat → Int → Int} {L : Nat → Int → Int64} {z : ab_Z} {b : Nat} (hb : ab_bk b) (hI : ab_IB D b) (s c : Int) (h0 : D b 4 ≤ s) (h1 : s ≤ D b 3) (hw : c = ab_S (ab_th D b) s - ab_S (ab_th D b) (D b 4)) : ab_ev K 206 7 [some (.ref b), some (.int (ab_I c)), some (.int (ab_I s))] [] (ab_mk D L z) = some (.inl (some (.int (ab_I (ab_S (ab_th D b) (D b 3) - ab_S (ab_th D b) (D b 4))))), (ab_mk D L z)) := by
  have hn := ab_IB_n hI
  rw [ab_e206_7]
  by_cases hc : D b 3 ≤ s
  · simp (discharger := first | assumption | exact True.intro | exact not_false | (refine ab_gK ?_; with_unfolding_all rfl) | exact ab_rgI (by omega) (by omega) | omega) only [ab_e206_0, ab_e206_1, ab_e206_2, ab_e206_3, ab_e206_6, ab_e206_8, ab_e206_9, ab_e206_12, ab_e206_15, ab_e206_16, ab_e206_17, ab_e206_18, ab_e206_21, ab_e206_22, ab_e206_23, ab_e206_26, ab_e206_29, ab_e206_30, ab_br_t, ab_br_f, ab_re_v (ab_zz _), ab_re_n (ab_zz _)]
    exact ab_fin (by rw [hw, show s = D b 3 by omega]) rfl
  · simp (discharger := first | assumption | exact True.intro | exact not_false | (refine ab_gK ?_; with_unfolding_all rfl) | exact ab_rgI (by omega) (by omega) | omega) only [ab_y250, ab_e206_0, ab_e206_1, ab_e206_2, ab_e206_3, ab_e206_6, ab_e206_8, ab_e206_9, ab_e206_12, ab_e206_15, ab_e206_16, ab_e206_17, ab_e206_18, ab_e206_21, ab_e206_22, ab_e206_23, ab_e206_26, ab_e206_29, ab_e206_30, ab_br_t, ab_br_f, ab_re_v (ab_zz _), ab_re_n (ab_zz _)]
    exact ab_l206 hb hI (s + 1) _ (by omega) (by omega) (by rw [ab_S1 _ (by omega), hw]; omega)
termination_by (D b 3 - s).toNat
decreasing_by all_goals omega

theorem ab_y206 {K : ab_Kt} {D : Nat → Int → Int} {L : Nat → Int → Int64} {z : ab_Z} {b : Nat} (hb : ab_bk b) (hI : ab_IB D b) : ab_cal K 206 [.ref b] (ab_mk D L z) = some (.inl (some (.int (ab_I (ab_S (ab_th D b) (D b 3) - ab_S (ab_th D b) (D b 4))))), (ab_mk D L z)) := by
  have hn := ab_IB_n hI
  simp (discharger := first | assumption | exact True.intro | exact not_false | (refine ab_gK ?_; with_unfolding_all rfl) | exact ab_rgI (by omega) (by omega) | omega) only [ab_a206, ab_e206_0, ab_e206_1, ab_e206_2, ab_e206_3, ab_e206_6, ab_e206_8, ab_e206_9, ab_e206_12, ab_e206_15, ab_e206_16, ab_e206_17, ab_e206_18, ab_e206_21, ab_e206_22, ab_e206_23, ab_e206_26, ab_e206_29, ab_e206_30, ab_br_t, ab_br_f, ab_re_v (ab_zz _), ab_re_n (ab_zz _)]
  exact ab_l206 hb hI _ 0 (by omega) (by omega) (by omega)

theorem ab_y199 {K : ab_Kt} {D : Nat → Int → Int} {L : Nat → Int → Int64} {z : ab_Z} {b : Nat} (hb : ab_bk b) (hI : ab_IB D b) : ab_cal K 199 [.ref b] (ab_mk D L z) = some (.inl (some (.int (ab_I (ab_wrong D b * 97 + ab_miss D b)))), (ab_mk D L z)) := by
  simp (discharger := first | assumption | exact True.intro | exact not_false | (refine ab_gK ?_; with_unfolding_all rfl) | exact ab_rgI (by omega) (by omega) | omega) only [ab_a199, ab_y184, ab_y211, ab_e199_0, ab_e199_1, ab_e199_4, ab_e199_6, ab_e199_7, ab_e199_8, ab_e199_11, ab_e199_12, ab_br_t, ab_br_f, ab_re_v (ab_zz _), ab_re_n (ab_zz _)]
