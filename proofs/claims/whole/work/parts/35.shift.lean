/-! ===== signatures are moved; small methods of the class ===== -/
def bb_h (p x s : Int) : Int := if p ≤ s ∧ s < x then s + 1 else if x < s ∧ s ≤ p then s - 1 else s
def bb_mvi (p t s : Int) : Int := if s = t then p else if p ≤ s ∧ s < t then s + 1 else if t < s ∧ s ≤ p then s - 1 else s
/-- on the way -/
def bb_MW (D0 D : Nat → Int → Int) (b : Nat) (p x : Int) : Prop := (∀ i, (i < b + 1 ∨ b + 5 ≤ i) → D i = D0 i) ∧ ∀ s, 0 ≤ s → s < 12 → D (b + 1) s = D0 (b + 1) (bb_h p x s) ∧ D (b + 3) s = D0 (b + 3) (bb_h p x s) ∧ D (b + 4) s = D0 (b + 4) (bb_h p x s) ∧ D (b + 2) s = if (p ≤ s ∧ s < x) ∨ (x < s ∧ s ≤ p) then D (b + 1) s + ab_pw (D (b + 3) s) - 1 else D0 (b + 2) s
def bb_MV (D0 D : Nat → Int → Int) (b : Nat) (p t : Int) : Prop := (∀ i, (i < b + 1 ∨ b + 5 ≤ i) → D i = D0 i) ∧ ∀ s, 0 ≤ s → s < 12 → D (b + 1) s = D0 (b + 1) (bb_mvi p t s) ∧ D (b + 3) s = D0 (b + 3) (bb_mvi p t s) ∧ D (b + 4) s = D0 (b + 4) (bb_mvi p t s) ∧ D (b + 2) s = if (p ≤ s ∧ s ≤ t) ∨ (t ≤ s ∧ s ≤ p) then D (b + 1) s + ab_pw (D (b + 3) s) - 1 else D0 (b + 2) s
theorem bb_h_rg {p x s : Int} (p0 : 0 ≤ p) (p1 : p < 12) (x0 : 0 ≤ x) (x1 : x < 12) (s0 : 0 ≤ s) (s1 : s < 12) : 0 ≤ bb_h p x s ∧ bb_h p x s < 12 := by unfold bb_h; omega
theorem bb_mvi_rg {p t s n : Int} (p0 : 0 ≤ p) (p1 : p < n) (x0 : 0 ≤ t) (x1 : t < n) (s0 : 0 ≤ s) (s1 : s < n) : 0 ≤ bb_mvi p t s ∧ bb_mvi p t s < n := by unfold bb_mvi; omega
theorem bb_MW_0 {D : Nat → Int → Int} {b : Nat} {p : Int} : bb_MW D D b p p := by
  refine ⟨fun i _ => rfl, fun s s0 s1 => ?_⟩
  have e : bb_h p p s = s := by unfold bb_h; omega
  rw [e, if_neg (by omega)]
  exact ⟨rfl, rfl, rfl, rfl⟩
theorem bb_MW_AB {D0 D : Nat → Int → Int} {b : Nat} {p x s : Int} (h : bb_MW D0 D b p x) (hA : bb_AB D0 b) (p0 : 0 ≤ p) (p1 : p < 12) (x0 : 0 ≤ x) (x1 : x < 12) (s0 : 0 ≤ s) (s1 : s < 12) : (0 ≤ D (b + 1) s ∧ D (b + 1) s ≤ 99) ∧ (0 ≤ D (b + 3) s ∧ D (b + 3) s ≤ 3) ∧ (D (b + 4) s = 0 ∨ D (b + 4) s = 1) := by
  have h1 := h.2 s s0 s1
  have h2 := bb_h_rg p0 p1 x0 x1 s0 s1
  have h3 := hA _ h2.1 h2.2
  rw [h1.1, h1.2.1, h1.2.2.1]
  exact ⟨h3.1, h3.2.2.1, h3.2.2.2⟩
theorem bb_MW_up {D0 D : Nat → Int → Int} {b : Nat} {p x : Int} (h : bb_MW D0 D b p x) (p0 : 0 ≤ p) (hx : p ≤ x) (x1 : x + 1 < 12) : bb_MW D0 (bb_put D b x (D (b + 1) (x + 1)) (D (b + 3) (x + 1)) (D (b + 4) (x + 1))) b p (x + 1) := by
  refine ⟨fun i hi => by rw [bb_put_row hi, h.1 i hi], fun s s0 s1 => ?_⟩
  rw [bb_put_1, bb_put_2, bb_put_3, bb_put_4]
  by_cases hs : s = x
  · subst hs
    have h1 := h.2 (s + 1) (by omega) (by omega)
    have e : bb_h p s (s + 1) = s + 1 := by unfold bb_h; omega
    have e2 : bb_h p (s + 1) s = s + 1 := by unfold bb_h; omega
    rw [if_pos rfl, if_pos rfl, if_pos rfl, if_pos rfl, e2, if_pos (by omega)]
    rw [e] at h1
    exact ⟨h1.1, h1.2.1, h1.2.2.1, rfl⟩
  · have h1 := h.2 s s0 s1
    have e : bb_h p (x + 1) s = bb_h p x s := by unfold bb_h; omega
    rw [if_neg hs, if_neg hs, if_neg hs, if_neg hs, e]
    refine ⟨h1.1, h1.2.1, h1.2.2.1, ?_⟩
    rw [h1.2.2.2]
    by_cases hc : (p ≤ s ∧ s < x) ∨ (x < s ∧ s ≤ p)
    · rw [if_pos hc, if_pos (by omega)]
    · rw [if_neg hc, if_neg (by omega)]
theorem bb_MW_dn {D0 D : Nat → Int → Int} {b : Nat} {p x : Int} (h : bb_MW D0 D b p x) (p1 : p < 12) (hx : x ≤ p) (x1 : 1 ≤ x) : bb_MW D0 (bb_put D b x (D (b + 1) (x - 1)) (D (b + 3) (x - 1)) (D (b + 4) (x - 1))) b p (x - 1) := by
  refine ⟨fun i hi => by rw [bb_put_row hi, h.1 i hi], fun s s0 s1 => ?_⟩
  rw [bb_put_1, bb_put_2, bb_put_3, bb_put_4]
  by_cases hs : s = x
  · subst hs
    have h1 := h.2 (s - 1) (by omega) (by omega)
    have e : bb_h p s (s - 1) = s - 1 := by unfold bb_h; omega
    have e2 : bb_h p (s - 1) s = s - 1 := by unfold bb_h; omega
    rw [if_pos rfl, if_pos rfl, if_pos rfl, if_pos rfl, e2, if_pos (by omega)]
    rw [e] at h1
    exact ⟨h1.1, h1.2.1, h1.2.2.1, rfl⟩
  · have h1 := h.2 s s0 s1
    have e : bb_h p (x - 1) s = bb_h p x s := by unfold bb_h; omega
    rw [if_neg hs, if_neg hs, if_neg hs, if_neg hs, e]
    refine ⟨h1.1, h1.2.1, h1.2.2.1, ?_⟩
    rw [h1.2.2.2]
    by_cases hc : (p ≤ s ∧ s < x) ∨ (x < s ∧ s ≤ p)
    · rw [if_pos hc, if_pos (by omega)]
    · rw [if_neg hc, if_neg (by omega)]
theorem bb_MW_end {D0 D : Nat → Int → Int} {b : Nat} {p t : Int} (h : bb_MW D0 D b p t) : bb_MV D0 (bb_put D b t (D0 (b + 1) p) (D0 (b + 3) p) (D0 (b + 4) p)) b p t := by
  refine ⟨fun i hi => by rw [bb_put_row hi, h.1 i hi], fun s s0 s1 => ?_⟩
  rw [bb_put_1, bb_put_2, bb_put_3, bb_put_4]
  by_cases hs : s = t
  · subst hs
    have e : bb_mvi p s s = p := by unfold bb_mvi; omega
    rw [if_pos rfl, if_pos rfl, if_pos rfl, if_pos rfl, e, if_pos (by omega)]
    exact ⟨rfl, rfl, rfl, rfl⟩
  · have h1 := h.2 s s0 s1
    have e : bb_mvi p t s = bb_h p t s := by unfold bb_mvi bb_h; omega
    rw [if_neg hs, if_neg hs, if_neg hs, if_neg hs, e]
    refine ⟨h1.1, h1.2.1, h1.2.2.1, ?_⟩
    rw [h1.2.2.2]
    by_cases hc : (p ≤ s ∧ s < t) ∨ (t < s ∧ s ≤ p)
    · rw [if_pos hc, if_pos (by omega)]
    · rw [if_neg hc, if_neg (by omega)]
theorem bb_l262d {K : ab_Kt} {D : Nat → Int → Int} {L : Nat → Int → Int64} {z : ab_Z} {b : Nat} (hb : ab_bk b) (D0 : Nat → Int → Int) (hA : bb_AB D0 b) {p t : Int} (p0 : 0 ≤ p) (p1 : p < 12) (t0 : 0 ≤ t) (t1 : t < 12) (x : Int) (x0 : min p t ≤ x) (x1 : x ≤ max p t) (h9 : p ≤ t → x = t) (h : bb_MW D0 D b p x) : ∃ D', ab_ev K 262 74 [some (.ref b), some (.int (ab_I p)), some (.int (ab_I t)), some (.int (ab_I (D0 (b + 1) p))), some (.int (ab_I (D0 (b + 3) p))), some (.int (ab_I (D0 (b + 4) p))), some (.int (ab_I x))] [] (ab_mk D L z) = some (.inl none, ab_mk D' L z) ∧ bb_MV D0 D' b p t := by
  have hp := hA p p0 p1
  rw [ab_e262_74]
  by_cases hx : x ≤ t
  · have ex : x = t := by omega
    subst ex
    refine ⟨_, ?_, bb_MW_end h⟩
    simp (discharger := first | assumption | exact True.intro | exact not_false | (refine ab_gK ?_; with_unfolding_all rfl) | exact ab_rgI (by omega) (by omega) | omega) only [bb_y229, ab_e262_0, ab_e262_1, ab_e262_4, ab_e262_5, ab_e262_6, ab_e262_7, ab_e262_8, ab_e262_11, ab_e262_12, ab_e262_13, ab_e262_15, ab_e262_16, ab_e262_19, ab_e262_20, ab_e262_21, ab_e262_23, ab_e262_24, ab_e262_28, ab_e262_29, ab_e262_32, ab_e262_33, ab_e262_35, ab_e262_36, ab_e262_39, ab_e262_41, ab_e262_42, ab_e262_43, ab_e262_44, ab_e262_45, ab_e262_48, ab_e262_50, ab_e262_51, ab_e262_52, ab_e262_53, ab_e262_54, ab_e262_57, ab_e262_59, ab_e262_60, ab_e262_61, ab_e262_62, ab_e262_65, ab_e262_68, ab_e262_71, ab_e262_72, ab_e262_76, ab_e262_77, ab_e262_80, ab_e262_81, ab_e262_83, ab_e262_84, ab_e262_87, ab_e262_89, ab_e262_90, ab_e262_91, ab_e262_92, ab_e262_93, ab_e262_96, ab_e262_98, ab_e262_99, ab_e262_100, ab_e262_101, ab_e262_102, ab_e262_105, ab_e262_107, ab_e262_108, ab_e262_109, ab_e262_110, ab_e262_113, ab_e262_116, ab_e262_119, ab_e262_120, ab_e262_121, ab_e262_122, ab_e262_124, ab_e262_126, ab_e262_129, ab_br_t, ab_br_f, ab_re_v (ab_zz _), ab_re_n (ab_zz _)]
  · have ha := bb_MW_AB h hA p0 p1 (by omega) (by omega) (s := x - 1) (by omega) (by omega)
    obtain ⟨D', e, g1⟩ := bb_l262d (K := K) (L := L) (z := z) hb D0 hA p0 p1 t0 t1 (x - 1) (by omega) (by omega) (by omega) (bb_MW_dn h p1 (by omega) (by omega))
    refine ⟨D', ?_, g1⟩
    simp (discharger := first | assumption | exact True.intro | exact not_false | (refine ab_gK ?_; with_unfolding_all rfl) | exact ab_rgI (by omega) (by omega) | omega) only [bb_y229, ab_e262_0, ab_e262_1, ab_e262_4, ab_e262_5, ab_e262_6, ab_e262_7, ab_e262_8, ab_e262_11, ab_e262_12, ab_e262_13, ab_e262_15, ab_e262_16, ab_e262_19, ab_e262_20, ab_e262_21, ab_e262_23, ab_e262_24, ab_e262_28, ab_e262_29, ab_e262_32, ab_e262_33, ab_e262_35, ab_e262_36, ab_e262_39, ab_e262_41, ab_e262_42, ab_e262_43, ab_e262_44, ab_e262_45, ab_e262_48, ab_e262_50, ab_e262_51, ab_e262_52, ab_e262_53, ab_e262_54, ab_e262_57, ab_e262_59, ab_e262_60, ab_e262_61, ab_e262_62, ab_e262_65, ab_e262_68, ab_e262_71, ab_e262_72, ab_e262_76, ab_e262_77, ab_e262_80, ab_e262_81, ab_e262_83, ab_e262_84, ab_e262_87, ab_e262_89, ab_e262_90, ab_e262_91, ab_e262_92, ab_e262_93, ab_e262_96, ab_e262_98, ab_e262_99, ab_e262_100, ab_e262_101, ab_e262_102, ab_e262_105, ab_e262_107, ab_e262_108, ab_e262_109, ab_e262_110, ab_e262_113, ab_e262_116, ab_e262_119, ab_e262_120, ab_e262_121, ab_e262_122, ab_e262_124, ab_e262_126, ab_e262_129, ab_br_t, ab_br_f, ab_re_v (ab_zz _), ab_re_n (ab_zz _)]
    exact e
termination_by (x - t).toNat
decreasing_by all_goals omega

theorem bb_l262u {K : ab_Kt} {D : Nat → Int → Int} {L : Nat → Int → Int64} {z : ab_Z} {b : Nat} (hb : ab_bk b) (D0 : Nat → Int → Int) (hA : bb_AB D0 b) {p t : Int} (p0 : 0 ≤ p) (p1 : p < 12) (t0 : 0 ≤ t) (t1 : t < 12) (x : Int) (x0 : p ≤ x) (x1 : x ≤ max p t) (h : bb_MW D0 D b p x) : ∃ D', ab_ev K 262 26 [some (.ref b), some (.int (ab_I p)), some (.int (ab_I t)), some (.int (ab_I (D0 (b + 1) p))), some (.int (ab_I (D0 (b + 3) p))), some (.int (ab_I (D0 (b + 4) p))), some (.int (ab_I x))] [] (ab_mk D L z) = some (.inl none, ab_mk D' L z) ∧ bb_MV D0 D' b p t := by
  have hp := hA p p0 p1
  rw [ab_e262_26]
  by_cases hx : t ≤ x
  · by_cases hpt : p ≤ t
    · have ex : x = t := by omega
      subst ex
      by_cases hpx : p = x
      · subst hpx
        obtain ⟨D', e, g1⟩ := bb_l262d (K := K) (L := L) (z := z) hb D0 hA p0 p1 t0 t1 p (by omega) (by omega) (by omega) h
        refine ⟨D', ?_, g1⟩
        simp (discharger := first | assumption | exact True.intro | exact not_false | (refine ab_gK ?_; with_unfolding_all rfl) | exact ab_rgI (by omega) (by omega) | omega) only [ab_e262_0, ab_e262_1, ab_e262_4, ab_e262_5, ab_e262_6, ab_e262_7, ab_e262_8, ab_e262_11, ab_e262_12, ab_e262_13, ab_e262_15, ab_e262_16, ab_e262_19, ab_e262_20, ab_e262_21, ab_e262_23, ab_e262_24, ab_e262_28, ab_e262_29, ab_e262_32, ab_e262_33, ab_e262_35, ab_e262_36, ab_e262_39, ab_e262_41, ab_e262_42, ab_e262_43, ab_e262_44, ab_e262_45, ab_e262_48, ab_e262_50, ab_e262_51, ab_e262_52, ab_e262_53, ab_e262_54, ab_e262_57, ab_e262_59, ab_e262_60, ab_e262_61, ab_e262_62, ab_e262_65, ab_e262_68, ab_e262_71, ab_e262_72, ab_e262_76, ab_e262_77, ab_e262_80, ab_e262_81, ab_e262_83, ab_e262_84, ab_e262_87, ab_e262_89, ab_e262_90, ab_e262_91, ab_e262_92, ab_e262_93, ab_e262_96, ab_e262_98, ab_e262_99, ab_e262_100, ab_e262_101, ab_e262_102, ab_e262_105, ab_e262_107, ab_e262_108, ab_e262_109, ab_e262_110, ab_e262_113, ab_e262_116, ab_e262_119, ab_e262_120, ab_e262_121, ab_e262_122, ab_e262_124, ab_e262_126, ab_e262_129, ab_br_t, ab_br_f, ab_re_v (ab_zz _), ab_re_n (ab_zz _)]
        exact e
      · refine ⟨_, ?_, bb_MW_end h⟩
        have hle : p ≤ x := x0
        simp (discharger := first | assumption | exact True.intro | exact not_false | (refine ab_gK ?_; with_unfolding_all rfl) | exact ab_rgI (by omega) (by omega) | omega) only [bb_y229, ab_e262_0, ab_e262_1, ab_e262_4, ab_e262_5, ab_e262_6, ab_e262_7, ab_e262_8, ab_e262_11, ab_e262_12, ab_e262_13, ab_e262_15, ab_e262_16, ab_e262_19, ab_e262_20, ab_e262_21, ab_e262_23, ab_e262_24, ab_e262_28, ab_e262_29, ab_e262_32, ab_e262_33, ab_e262_35, ab_e262_36, ab_e262_39, ab_e262_41, ab_e262_42, ab_e262_43, ab_e262_44, ab_e262_45, ab_e262_48, ab_e262_50, ab_e262_51, ab_e262_52, ab_e262_53, ab_e262_54, ab_e262_57, ab_e262_59, ab_e262_60, ab_e262_61, ab_e262_62, ab_e262_65, ab_e262_68, ab_e262_71, ab_e262_72, ab_e262_74, ab_e262_76, ab_e262_77, ab_e262_80, ab_e262_81, ab_e262_83, ab_e262_84, ab_e262_87, ab_e262_89, ab_e262_90, ab_e262_91, ab_e262_92, ab_e262_93, ab_e262_96, ab_e262_98, ab_e262_99, ab_e262_100, ab_e262_101, ab_e262_102, ab_e262_105, ab_e262_107, ab_e262_108, ab_e262_109, ab_e262_110, ab_e262_113, ab_e262_116, ab_e262_119, ab_e262_120, ab_e262_121, ab_e262_122, ab_e262_124, ab_e262_126, ab_e262_129, ab_br_t, ab_br_f, ab_re_v (ab_zz _), ab_re_n (ab_zz _)]
    · have ex : x = p := by omega
      subst ex
      obtain ⟨D', e, g1⟩ := bb_l262d (K := K) (L := L) (z := z) hb D0 hA p0 p1 t0 t1 x (by omega) (by omega) (by omega) h
      refine ⟨D', ?_, g1⟩
      simp (discharger := first | assumption | exact True.intro | exact not_false | (refine ab_gK ?_; with_unfolding_all rfl) | exact ab_rgI (by omega) (by omega) | omega) only [ab_e262_0, ab_e262_1, ab_e262_4, ab_e262_5, ab_e262_6, ab_e262_7, ab_e262_8, ab_e262_11, ab_e262_12, ab_e262_13, ab_e262_15, ab_e262_16, ab_e262_19, ab_e262_20, ab_e262_21, ab_e262_23, ab_e262_24, ab_e262_28, ab_e262_29, ab_e262_32, ab_e262_33, ab_e262_35, ab_e262_36, ab_e262_39, ab_e262_41, ab_e262_42, ab_e262_43, ab_e262_44, ab_e262_45, ab_e262_48, ab_e262_50, ab_e262_51, ab_e262_52, ab_e262_53, ab_e262_54, ab_e262_57, ab_e262_59, ab_e262_60, ab_e262_61, ab_e262_62, ab_e262_65, ab_e262_68, ab_e262_71, ab_e262_72, ab_e262_76, ab_e262_77, ab_e262_80, ab_e262_81, ab_e262_83, ab_e262_84, ab_e262_87, ab_e262_89, ab_e262_90, ab_e262_91, ab_e262_92, ab_e262_93, ab_e262_96, ab_e262_98, ab_e262_99, ab_e262_100, ab_e262_101, ab_e262_102, ab_e262_105, ab_e262_107, ab_e262_108, ab_e262_109, ab_e262_110, ab_e262_113, ab_e262_116, ab_e262_119, ab_e262_120, ab_e262_121, ab_e262_122, ab_e262_124, ab_e262_126, ab_e262_129, ab_br_t, ab_br_f, ab_re_v (ab_zz _), ab_re_n (ab_zz _)]
      exact e
  · have ha := bb_MW_AB h hA p0 p1 (by omega) (by omega) (s := x + 1) (by omega) (by omega)
    obtain ⟨D', e, g1⟩ := bb_l262u (K := K) (L := L) (z := z) hb D0 hA p0 p1 t0 t1 (x + 1) (by omega) (by omega) (bb_MW_up h p0 x0 (by omega))
    refine ⟨D', ?_, g1⟩
    simp (discharger := first | assumption | exact True.intro | exact not_false | (refine ab_gK ?_; with_unfolding_all rfl) | exact ab_rgI (by omega) (by omega) | omega) only [bb_y229, ab_e262_0, ab_e262_1, ab_e262_4, ab_e262_5, ab_e262_6, ab_e262_7, ab_e262_8, ab_e262_11, ab_e262_12, ab_e262_13, ab_e262_15, ab_e262_16, ab_e262_19, ab_e262_20, ab_e262_21, ab_e262_23, ab_e262_24, ab_e262_28, ab_e262_29, ab_e262_32, ab_e262_33, ab_e262_35, ab_e262_36, ab_e262_39, ab_e262_41, ab_e262_42, ab_e262_43, ab_e262_44, ab_e262_45, ab_e262_48, ab_e262_50, ab_e262_51, ab_e262_52, ab_e262_53, ab_e262_54, ab_e262_57, ab_e262_59, ab_e262_60, ab_e262_61, ab_e262_62, ab_e262_65, ab_e262_68, ab_e262_71, ab_e262_72, ab_e262_76, ab_e262_77, ab_e262_80, ab_e262_81, ab_e262_83, ab_e262_84, ab_e262_87, ab_e262_89, ab_e262_90, ab_e262_91, ab_e262_92, ab_e262_93, ab_e262_96, ab_e262_98, ab_e262_99, ab_e262_100, ab_e262_101, ab_e262_102, ab_e262_105, ab_e262_107, ab_e262_108, ab_e262_109, ab_e262_110, ab_e262_113, ab_e262_116, ab_e262_119, ab_e262_120, ab_e262_121, ab_e262_122, ab_e262_124, ab_e262_126, ab_e262_129, ab_br_t, ab_br_f, ab_re_v (ab_zz _), ab_re_n (ab_zz _)]
    exact e
termination_by (t - x).toNat
decreasing_by all_goals omega

theorem bb_y262 {K : ab_Kt} {D : Nat → Int → Int} {L : Nat → Int → Int64} {z : ab_Z} {b : Nat} (hb : ab_bk b) (hA : bb_AB D b) {p t : Int} (p0 : 0 ≤ p) (p1 : p < 12) (t0 : 0 ≤ t) (t1 : t < 12) : ∃ D', ab_cal K 262 [.ref b, .int (ab_I p), .int (ab_I t)] (ab_mk D L z) = some (.inl none, ab_mk D' L z) ∧ bb_MV D D' b p t := by
  obtain ⟨D', e, g1⟩ := bb_l262u (K := K) (L := L) (z := z) hb D hA p0 p1 t0 t1 p (by omega) (by omega) bb_MW_0
  refine ⟨D', ?_, g1⟩
  simp (discharger := first | assumption | exact True.intro | exact not_false | (refine ab_gK ?_; with_unfolding_all rfl) | exact ab_rgI (by omega) (by omega) | omega) only [ab_a262, ab_e262_0, ab_e262_1, ab_e262_4, ab_e262_5, ab_e262_6, ab_e262_7, ab_e262_8, ab_e262_11, ab_e262_12, ab_e262_13, ab_e262_15, ab_e262_16, ab_e262_19, ab_e262_20, ab_e262_21, ab_e262_23, ab_e262_24, ab_e262_28, ab_e262_29, ab_e262_32, ab_e262_33, ab_e262_35, ab_e262_36, ab_e262_39, ab_e262_41, ab_e262_42, ab_e262_43, ab_e262_44, ab_e262_45, ab_e262_48, ab_e262_50, ab_e262_51, ab_e262_52, ab_e262_53, ab_e262_54, ab_e262_57, ab_e262_59, ab_e262_60, ab_e262_61, ab_e262_62, ab_e262_65, ab_e262_68, ab_e262_71, ab_e262_72, ab_e262_74, ab_e262_76, ab_e262_77, ab_e262_80, ab_e262_81, ab_e262_83, ab_e262_84, ab_e262_87, ab_e262_89, ab_e262_90, ab_e262_91, ab_e262_92, ab_e262_93, ab_e262_96, ab_e262_98, ab_e262_99, ab_e262_100, ab_e262_101, ab_e262_102, ab_e262_105, ab_e262_107, ab_e262_108, ab_e262_109, ab_e262_110, ab_e262_113, ab_e262_116, ab_e262_119, ab_e262_120, ab_e262_121, ab_e262_122, ab_e262_124, ab_e262_126, ab_e262_129, ab_br_t, ab_br_f, ab_re_v (ab_zz _), ab_re_n (ab_zz _)]
  exact e

theorem bb_y263 {K : ab_Kt} {D : Nat → Int → Int} {L : Nat → Int → Int64} {z : ab_Z} {b : Nat} (hb : ab_bk b) {p q : Int} : ab_cal K 263 [.ref b, .int (ab_I p), .int (ab_I q)] (ab_mk D L z) = some (.inl none, ab_mk (ab_u (ab_u D b 0 p) b 1 q) L z) := by
  simp (discharger := first | assumption | exact True.intro | exact not_false | (refine ab_gK ?_; with_unfolding_all rfl) | exact ab_rgI (by omega) (by omega) | omega) only [ab_a263, ab_e263_0, ab_e263_1, ab_e263_2, ab_e263_5, ab_e263_6, ab_e263_7, ab_e263_10, ab_br_t, ab_br_f, ab_re_v (ab_zz _), ab_re_n (ab_zz _)]

theorem bb_y275 {K : ab_Kt} {D : Nat → Int → Int} {L : Nat → Int → Int64} {z : ab_Z} {b : Nat} (hb : ab_bk b) : ab_cal K 275 [.ref b] (ab_mk D L z) = some (.inl none, ab_mk (ab_u (ab_u (ab_u D b 2 0) b 4 0) b 6 (-1)) L z) := by
  simp (discharger := first | assumption | exact True.intro | exact not_false | (refine ab_gK ?_; with_unfolding_all rfl) | exact ab_rgI (by omega) (by omega) | omega) only [ab_a275, ab_e275_0, ab_e275_1, ab_e275_2, ab_e275_5, ab_e275_6, ab_e275_7, ab_e275_10, ab_e275_11, ab_e275_12, ab_e275_15, ab_br_t, ab_br_f, ab_re_v (ab_zz _), ab_re_n (ab_zz _)]

theorem bb_y260 {K : ab_Kt} {D : Nat → Int → Int} {L : Nat → Int → Int64} {z : ab_Z} {b : Nat} (hb : ab_bk b) {p : Int} (p0 : 0 ≤ p) (p1 : p < 192) : ab_cal K 260 [.ref b, .int (ab_I p)] (ab_mk D L z) = some (.inl none, ab_mk (ab_u D b 5 (D b 5 + 1)) (ab_u L (b + 5) (p / 64) (L (b + 5) (p / 64) ||| bb_l1 (p % 64))) z) := by
  simp (discharger := first | assumption | exact True.intro | exact not_false | (refine ab_gK ?_; with_unfolding_all rfl) | exact ab_rgI (by omega) (by omega) | omega) only [ab_a260, ab_e260_0, ab_e260_1, ab_e260_3, ab_e260_4, ab_e260_5, ab_e260_6, ab_e260_9, ab_e260_10, ab_e260_11, ab_e260_14, ab_e260_15, ab_e260_16, ab_e260_19, ab_e260_20, ab_e260_21, ab_e260_22, ab_e260_23, ab_e260_24, ab_e260_26, bb_e260_27, bb_e260_28, ab_e260_29, ab_e260_30, ab_e260_31, ab_e260_32, ab_e260_35, ab_e260_36, ab_e260_37, ab_e260_40, ab_br_t, ab_br_f, ab_re_v (ab_zz _), ab_re_n (ab_zz _)]

theorem bb_y251 {K : ab_Kt} {D : Nat → Int → Int} {L : Nat → Int → Int64} {z : ab_Z} {b : Nat} (hb : ab_bk b) {p : Int} (hp : ab_rg p) (h3 : ab_rg (D b 3)) : ab_cal K 251 [.ref b, .int (ab_I p)] (ab_mk D L z) = some (.inl (some (.int (ab_I (if 0 ≤ p ∧ p < D b 3 then 1 else 0)))), (ab_mk D L z)) := by
  simp (discharger := first | assumption | exact True.intro | exact not_false | (refine ab_gK ?_; with_unfolding_all rfl) | exact ab_rgI (by omega) (by omega) | omega) only [ab_a251, ab_e251_0, ab_e251_1, ab_e251_4, ab_e251_5, ab_e251_6, ab_e251_9, ab_e251_12, ab_e251_13, ab_e251_16, ab_e251_17, ab_br_t, ab_br_f, ab_re_v (ab_zz _), ab_re_n (ab_zz _)]
  iterate 2 (all_goals (try (refine ab_br_c (fun hc => ?_) (fun hc => ?_) <;> try simp (discharger := first | assumption | exact True.intro | exact not_false | (refine ab_gK ?_; with_unfolding_all rfl) | exact ab_rgI (by omega) (by omega) | omega) only [ab_a251, ab_e251_0, ab_e251_1, ab_e251_4, ab_e251_5, ab_e251_6, ab_e251_9, ab_e251_12, ab_e251_13, ab_e251_16, ab_e251_17, ab_br_t, ab_br_f, ab_re_v (ab_zz _), ab_re_n (ab_zz _)])))
  all_goals exact ab_fin (by omega) rfl

theorem bb_y230 {K : ab_Kt} {D : Nat → Int → Int} {L : Nat → Int → Int64} {z : ab_Z} {s : Nat} (hs : ab_sp s) {p : Int} (hp : ab_rg p) (h3 : ab_rg (D s 2)) : ab_cal K 230 [.ref s, .int (ab_I p)] (ab_mk D L z) = some (.inl (some (.int (ab_I (if 0 ≤ p ∧ p < D s 2 then 1 else 0)))), (ab_mk D L z)) := by
  simp (discharger := first | assumption | exact True.intro | exact not_false | (refine ab_gK ?_; with_unfolding_all rfl) | exact ab_rgI (by omega) (by omega) | omega) only [ab_a230, ab_e230_0, ab_e230_1, ab_e230_4, ab_e230_5, ab_e230_6, ab_e230_9, ab_e230_12, ab_e230_13, ab_e230_16, ab_e230_17, ab_br_t, ab_br_f, ab_re_v (ab_zz _), ab_re_n (ab_zz _)]
  iterate 2 (all_goals (try (refine ab_br_c (fun hc => ?_) (fun hc => ?_) <;> try simp (discharger := first | assumption | exact True.intro | exact not_false | (refine ab_gK ?_; with_unfolding_all rfl) | exact ab_rgI (by omega) (by omega) | omega) only [ab_a230, ab_e230_0, ab_e230_1, ab_e230_4, ab_e230_5, ab_e230_6, ab_e230_9, ab_e230_12, ab_e230_13, ab_e230_16, ab_e230_17, ab_br_t, ab_br_f, ab_re_v (ab_zz _), ab_re_n (ab_zz _)])))
  all_goals exact ab_fin (by omega) rfl

theorem bb_y248 {K : ab_Kt} {D : Nat → Int → Int} {L : Nat → Int → Int64} {z : ab_Z} {s : Nat} (hs : ab_sp s) {p : Int} (hp : ab_rg p) : ab_cal K 248 [.ref s, .int (ab_I p)] (ab_mk D L z) = some (.inl (some (.int (ab_I (if 0 ≤ p ∧ p < 2 then 1 else 0)))), (ab_mk D L z)) := by
  simp (discharger := first | assumption | exact True.intro | exact not_false | (refine ab_gK ?_; with_unfolding_all rfl) | exact ab_rgI (by omega) (by omega) | omega) only [ab_a248, ab_e248_0, ab_e248_1, ab_e248_4, ab_e248_5, ab_e248_6, ab_e248_9, ab_e248_10, ab_e248_13, ab_e248_14, ab_br_t, ab_br_f, ab_re_v (ab_zz _), ab_re_n (ab_zz _)]
  iterate 2 (all_goals (try (refine ab_br_c (fun hc => ?_) (fun hc => ?_) <;> try simp (discharger := first | assumption | exact True.intro | exact not_false | (refine ab_gK ?_; with_unfolding_all rfl) | exact ab_rgI (by omega) (by omega) | omega) only [ab_a248, ab_e248_0, ab_e248_1, ab_e248_4, ab_e248_5, ab_e248_6, ab_e248_9, ab_e248_10, ab_e248_13, ab_e248_14, ab_br_t, ab_br_f, ab_re_v (ab_zz _), ab_re_n (ab_zz _)])))
  all_goals exact ab_fin (by omega) rfl

theorem bb_l180 {K : ab_Kt} {D : Nat → Int → Int} {L : Nat → Int → Int64} {z : ab_Z} {s : Nat} (hs : ab_sp s) {c : Int} {g : Int → Int} (hw : bb_WS c g) (hk : bb_KS D L s g) (k a : Int) (k0 : 0 ≤ k) (k1 : k ≤ g 3) (ha : a = ab_S (fun e => bb_R g e 3) k) : ab_ev K 180 4 [some (.ref s), some (.int (ab_I a)), some (.int (ab_I k))] [] (ab_mk D L z) = some (.inl (some (.int (ab_I (ab_S (fun e => bb_R g e 3) (g 3))))), (ab_mk D L z)) := by
  have hm := hw.1
  have h2 := hk.1.1
  rw [ab_e180_4]
  by_cases hc : g 3 ≤ k
  · simp (discharger := first | assumption | exact True.intro | exact not_false | (refine ab_gK ?_; with_unfolding_all rfl) | exact ab_rgI (by omega) (by omega) | omega) only [ab_e180_0, ab_e180_1, ab_e180_2, ab_e180_3, ab_e180_5, ab_e180_6, ab_e180_9, ab_e180_12, ab_e180_13, ab_e180_14, ab_e180_17, ab_e180_18, ab_e180_19, ab_e180_22, ab_e180_23, ab_e180_24, ab_e180_27, ab_e180_30, ab_e180_31, ab_br_t, ab_br_f, ab_re_v (ab_zz _), ab_re_n (ab_zz _)]
    exact ab_fin (by rw [ha, show k = g 3 by omega]) rfl
  · have hbk := ab_bk_bI hs k0 (by omega)
    have h3 := bb_v_n (hk.2.2.2.1 k k0 (by omega))
    simp (discharger := first | assumption | exact True.intro | exact not_false | (refine ab_gK ?_; with_unfolding_all rfl) | exact ab_rgI (by omega) (by omega) | omega) only [ab_e180_0, ab_e180_1, ab_e180_2, ab_e180_3, ab_e180_5, ab_e180_6, ab_e180_9, ab_e180_12, ab_e180_13, ab_e180_14, ab_e180_17, ab_e180_18, ab_e180_19, ab_e180_22, ab_e180_23, ab_e180_24, ab_e180_27, ab_e180_30, ab_e180_31, ab_br_t, ab_br_f, ab_re_v (ab_zz _), ab_re_n (ab_zz _)]
    exact bb_l180 hs hw hk (k + 1) _ (by omega) (by omega) (by rw [ab_S1 _ k0, ha, h3])
termination_by (g 3 - k).toNat
decreasing_by all_goals omega

theorem bb_y180 {K : ab_Kt} {D : Nat → Int → Int} {L : Nat → Int → Int64} {z : ab_Z} {s : Nat} (hs : ab_sp s) {c : Int} {g : Int → Int} (hw : bb_WS c g) (hk : bb_KS D L s g) : ab_cal K 180 [.ref s] (ab_mk D L z) = some (.inl (some (.int (ab_I (ab_S (fun e => bb_R g e 3) (g 3))))), (ab_mk D L z)) := by
  have hm := hw.1
  simp (discharger := first | assumption | exact True.intro | exact not_false | (refine ab_gK ?_; with_unfolding_all rfl) | exact ab_rgI (by omega) (by omega) | omega) only [ab_a180, ab_e180_0, ab_e180_1, ab_e180_2, ab_e180_3, ab_e180_5, ab_e180_6, ab_e180_9, ab_e180_12, ab_e180_13, ab_e180_14, ab_e180_17, ab_e180_18, ab_e180_19, ab_e180_22, ab_e180_23, ab_e180_24, ab_e180_27, ab_e180_30, ab_e180_31, ab_br_t, ab_br_f, ab_re_v (ab_zz _), ab_re_n (ab_zz _)]
  exact bb_l180 hs hw hk 0 0 (by omega) (by omega) rfl

theorem bb_l181 {K : ab_Kt} {D : Nat → Int → Int} {L : Nat → Int → Int64} {z : ab_Z} {s : Nat} (hs : ab_sp s) {c : Int} {g : Int → Int} (hw : bb_WS c g) (hk : bb_KS D L s g) {st : Int} (hst : ab_rg st) (k a : Int) (k0 : 0 ≤ k) (k1 : k ≤ g 3) (ha : a = ab_S (fun e => if bb_R g e 2 = st then 1 else 0) k) : ab_ev K 181 4 [some (.ref s), some (.int (ab_I st)), some (.int (ab_I a)), some (.int (ab_I k))] [] (ab_mk D L z) = some (.inl (some (.int (ab_I (ab_S (fun e => if bb_R g e 2 = st then 1 else 0) (g 3))))), (ab_mk D L z)) := by
  have hm := hw.1
  have h2 := hk.1.1
  rw [ab_e181_4]
  by_cases hc : g 3 ≤ k
  · simp (discharger := first | assumption | exact True.intro | exact not_false | (refine ab_gK ?_; with_unfolding_all rfl) | exact ab_rgI (by omega) (by omega) | omega) only [ab_e181_0, ab_e181_1, ab_e181_2, ab_e181_3, ab_e181_5, ab_e181_6, ab_e181_9, ab_e181_12, ab_e181_13, ab_e181_16, ab_e181_17, ab_e181_18, ab_e181_21, ab_e181_22, ab_e181_25, ab_e181_28, ab_e181_31, ab_e181_34, ab_e181_35, ab_br_t, ab_br_f, ab_re_v (ab_zz _), ab_re_n (ab_zz _)]
    exact ab_fin (by rw [ha, show k = g 3 by omega]) rfl
  · have hbk := ab_bk_bI hs k0 (by omega)
    have h3 := (hk.2.2.2.1 k k0 (by omega)).1.2.2.1
    have hn := bb_WB_n (hw.2.2.2.2.2.1 k k0 (by omega))
    simp (discharger := first | assumption | exact True.intro | exact not_false | (refine ab_gK ?_; with_unfolding_all rfl) | exact ab_rgI (by omega) (by omega) | omega) only [ab_e181_0, ab_e181_1, ab_e181_2, ab_e181_3, ab_e181_5, ab_e181_6, ab_e181_9, ab_e181_12, ab_e181_13, ab_e181_16, ab_e181_17, ab_e181_18, ab_e181_21, ab_e181_22, ab_e181_25, ab_e181_28, ab_e181_31, ab_e181_34, ab_e181_35, ab_br_t, ab_br_f, ab_re_v (ab_zz _), ab_re_n (ab_zz _)]
    iterate 1 (all_goals (try (refine ab_br_c (fun hc => ?_) (fun hc => ?_) <;> try simp (discharger := first | assumption | exact True.intro | exact not_false | (refine ab_gK ?_; with_unfolding_all rfl) | exact ab_rgI (by omega) (by omega) | omega) only [ab_e181_0, ab_e181_1, ab_e181_2, ab_e181_3, ab_e181_5, ab_e181_6, ab_e181_9, ab_e181_12, ab_e181_13, ab_e181_16, ab_e181_17, ab_e181_18, ab_e181_21, ab_e181_22, ab_e181_25, ab_e181_28, ab_e181_31, ab_e181_34, ab_e181_35, ab_br_t, ab_br_f, ab_re_v (ab_zz _), ab_re_n (ab_zz _)])))
    all_goals exact bb_l181 hs hw hk hst (k + 1) _ (by omega) (by omega) (by rw [ab_S1 _ k0, ha]; omega)
termination_by (g 3 - k).toNat
decreasing_by all_goals omega

theorem bb_y181 {K : ab_Kt} {D : Nat → Int → Int} {L : Nat → Int → Int64} {z : ab_Z} {s : Nat} (hs : ab_sp s) {c : Int} {g : Int → Int} (hw : bb_WS c g) (hk : bb_KS D L s g) {st : Int} (hst : ab_rg st) : ab_cal K 181 [.ref s, .int (ab_I st)] (ab_mk D L z) = some (.inl (some (.int (ab_I (ab_S (fun e => if bb_R g e 2 = st then 1 else 0) (g 3))))), (ab_mk D L z)) := by
  have hm := hw.1
  simp (discharger := first | assumption | exact True.intro | exact not_false | (refine ab_gK ?_; with_unfolding_all rfl) | exact ab_rgI (by omega) (by omega) | omega) only [ab_a181, ab_e181_0, ab_e181_1, ab_e181_2, ab_e181_3, ab_e181_5, ab_e181_6, ab_e181_9, ab_e181_12, ab_e181_13, ab_e181_16, ab_e181_17, ab_e181_18, ab_e181_21, ab_e181_22, ab_e181_25, ab_e181_28, ab_e181_31, ab_e181_34, ab_e181_35, ab_br_t, ab_br_f, ab_re_v (ab_zz _), ab_re_n (ab_zz _)]
  exact bb_l181 hs hw hk hst 0 0 (by omega) (by omega) rfl

