/-! ===== the line ===== -/
/-- a signature in the line, behind l -/
def bb_l4 (g : Int → Int) (e s : Int) (l : List Int) : List Int := (((l ++ [32]) ++ bb_dg (bb_R g e (7 + 3 * s + 0))) ++ [45]) ++ bb_dg (bb_R g e (7 + 3 * s + 0) + ab_pw (bb_R g e (7 + 3 * s + 1)) - 1)
def bb_l5 (g : Int → Int) (e s : Int) (l : List Int) : List Int := if bb_R g e (7 + 3 * s + 2) = 1 then l ++ [33] else l
def bb_l6 (g : Int → Int) (e s : Int) (l : List Int) : List Int := if s < bb_R g e 4 then l ++ [115] else l
def bb_lz (g : Int → Int) (e : Int) : Nat → List Int
  | 0 => bb_dg e ++ [58]
  | k + 1 => bb_l6 g e k (bb_l5 g e k (bb_l4 g e k (bb_lz g e k)))
theorem bb_dg_le (x : Int) : (bb_dg x).length ≤ 3 := by
  have h := bb_dg_len x
  have h2 : bb_s10 x ≤ 3 := by unfold bb_s10; (repeat' split) <;> omega
  omega
theorem bb_l4_le (g : Int → Int) (e s : Int) (l : List Int) : (bb_l4 g e s l).length ≤ l.length + 8 := by
  unfold bb_l4
  have a := bb_dg_le (bb_R g e (7 + 3 * s + 0))
  have b := bb_dg_le (bb_R g e (7 + 3 * s + 0) + ab_pw (bb_R g e (7 + 3 * s + 1)) - 1)
  simp only [List.length_append, List.length_cons, List.length_nil]
  omega
theorem bb_l5_le (g : Int → Int) (e s : Int) (l : List Int) : (bb_l5 g e s l).length ≤ l.length + 1 := by
  unfold bb_l5
  split
  · simp only [List.length_append, List.length_cons, List.length_nil]; omega
  · omega
theorem bb_l6_le (g : Int → Int) (e s : Int) (l : List Int) : (bb_l6 g e s l).length ≤ l.length + 1 := by
  unfold bb_l6
  split
  · simp only [List.length_append, List.length_cons, List.length_nil]; omega
  · omega
theorem bb_lz_le (g : Int → Int) (e : Int) : ∀ k : Nat, (bb_lz g e k).length ≤ 4 + 10 * k
  | 0 => by
    have a := bb_dg_le e
    show (bb_dg e ++ [58]).length ≤ _
    simp only [List.length_append, List.length_cons, List.length_nil]
    omega
  | k + 1 => by
    have a := bb_lz_le g e k
    have b := bb_l4_le g e k (bb_lz g e k)
    have c := bb_l5_le g e k (bb_l4 g e k (bb_lz g e k))
    have d := bb_l6_le g e k (bb_l5 g e k (bb_l4 g e k (bb_lz g e k)))
    show (bb_l6 g e k (bb_l5 g e k (bb_l4 g e k (bb_lz g e k)))).length ≤ _
    omega
/-- what the line needs of a book -/
def bb_BL (D : Nat → Int → Int) (b : Nat) (g : Int → Int) (e : Int) : Prop := b + 6 ≤ 494 ∧ D b 3 = bb_R g e 3 ∧ D b 4 = bb_R g e 4 ∧ ∀ s, 0 ≤ s → s < bb_R g e 3 → D (b + 1) s = bb_R g e (7 + 3 * s + 0) ∧ D (b + 4) s = bb_R g e (7 + 3 * s + 2) ∧ D (b + 2) s = bb_R g e (7 + 3 * s + 0) + ab_pw (bb_R g e (7 + 3 * s + 1)) - 1
theorem bb_BL_fr {D D' : Nat → Int → Int} {b : Nat} {g : Int → Int} {e : Int} (h : bb_BL D b g e) (hD : ∀ i, i < 494 → D' i = D i) : bb_BL D' b g e := by
  obtain ⟨a, b1, b2, b3⟩ := h
  refine ⟨a, by rw [hD b (by omega)]; exact b1, by rw [hD b (by omega)]; exact b2, fun s s0 s1 => ?_⟩
  rw [hD (b + 1) (by omega), hD (b + 2) (by omega), hD (b + 4) (by omega)]
  exact b3 s s0 s1
theorem bb_LF_r {D D' : Nat → Int → Int} {z z' : ab_Z} (h : bb_LF D z D' z') : ∀ i, i < 494 → D' i = D i := fun i a => h.1 i (by omega) (by omega) (by omega)
theorem bb_LF_z {D D' : Nat → Int → Int} {z z' : ab_Z} (h : bb_LF D z D' z') : z.2.2.2.2.2.1 ≤ z'.2.2.2.2.2.1 ∧ z.2.2.2.2.2.2 ≤ z'.2.2.2.2.2.2 := ⟨h.2.2.1, h.2.2.2.1⟩
theorem bb_l107 {K : ab_Kt} {g : Int → Int} {e mn : Int} {b : Nat} (hw : bb_WB g e mn) (hb : ab_bk b) (k : Nat) (D0 : Nat → Int → Int) (L : Nat → Int → Int64) (z0 : ab_Z) (hkn9 : (k : Int) ≤ bb_R g e 3) (sb0 : bb_SB D0 z0) (ct0 : bb_ct (D0 z0.1) (D0 497 3) (bb_lz g e k)) (bl0 : bb_BL D0 b g e) : ∃ D' z', ab_ev K 107 30 [some (.ref 17), some (.int (ab_I e)), some (.ref b), some (.int (ab_I (k : Int)))] [] (ab_mk D0 L z0) = some (.inl (some (.int (ab_I (D' 497 3)))), ab_mk D' L z') ∧ bb_SB D' z' ∧ bb_ct (D' z'.1) (D' 497 3) (bb_lz g e (bb_R g e 3).toNat) ∧ bb_LF D0 z0 D' z' := by
  have hn := bb_WB_n hw
  by_cases hkn : (k : Int) < bb_R g e 3
  · have ha := bb_WB_a hw (s := k) (by omega) (by omega)
    have hs := bb_WB_s hw (s := k) (by omega) hkn
    have hp : 2 ≤ ab_pw (bb_R g e (7 + 3 * (k : Int) + 1)) ∧ ab_pw (bb_R g e (7 + 3 * (k : Int) + 1)) ≤ 16 := by unfold ab_pw; (repeat' split) <;> omega
    have le0 := bb_lz_le g e k
    have k12 : (k : Int) < 12 := by omega
    have kc : ((k + 1 : Nat) : Int) = (k : Int) + 1 := by omega
    have dl1 := bb_dg_le (bb_R g e (7 + 3 * (k : Int) + 0))
    have dl2 := bb_dg_le (bb_R g e (7 + 3 * (k : Int) + 0) + ab_pw (bb_R g e (7 + 3 * (k : Int) + 1)) - 1)
    obtain ⟨-, c03, c04, cs0⟩ := id bl0
    obtain ⟨c08, c011, c09⟩ := cs0 k (by omega) hkn
    obtain ⟨D1, z1, e1, sb1, ct1, lf1⟩ := bb_y189 (K := K) (D := D0) (L := L) (z := z0) (x := 32) (l := bb_lz g e k) sb0 ct0 (by decide) (by decide) (by omega)
    have h1 := bb_LF_z lf1
    have bl1 := bb_BL_fr bl0 (bb_LF_r lf1)
    obtain ⟨-, c13, c14, cs1⟩ := id bl1
    obtain ⟨c18, c111, c19⟩ := cs1 k (by omega) hkn
    obtain ⟨D2, z2, e2, sb2, ct2, lf2⟩ := bb_y188 (K := K) (D := D1) (L := L) (z := z1) (x := (bb_R g e (7 + 3 * (k : Int) + 0))) (l := bb_lz g e k ++ [32]) sb1 ct1 (by omega) (by omega) (by simp only [List.length_append, List.length_cons, List.length_nil]; omega)
    have h2 := bb_LF_z lf2
    have bl2 := bb_BL_fr bl1 (bb_LF_r lf2)
    obtain ⟨-, c23, c24, cs2⟩ := id bl2
    obtain ⟨c28, c211, c29⟩ := cs2 k (by omega) hkn
    obtain ⟨D3, z3, e3, sb3, ct3, lf3⟩ := bb_y189 (K := K) (D := D2) (L := L) (z := z2) (x := 45) (l := (bb_lz g e k ++ [32]) ++ bb_dg (bb_R g e (7 + 3 * (k : Int) + 0))) sb2 ct2 (by decide) (by decide) (by simp only [List.length_append, List.length_cons, List.length_nil]; omega)
    have h3 := bb_LF_z lf3
    have bl3 := bb_BL_fr bl2 (bb_LF_r lf3)
    obtain ⟨-, c33, c34, cs3⟩ := id bl3
    obtain ⟨c38, c311, c39⟩ := cs3 k (by omega) hkn
    obtain ⟨D4, z4, e4, sb4, ct4, lf4⟩ := bb_y188 (K := K) (D := D3) (L := L) (z := z3) (x := (bb_R g e (7 + 3 * (k : Int) + 0) + ab_pw (bb_R g e (7 + 3 * (k : Int) + 1)) - 1)) (l := ((bb_lz g e k ++ [32]) ++ bb_dg (bb_R g e (7 + 3 * (k : Int) + 0))) ++ [45]) sb3 ct3 (by omega) (by omega) (by simp only [List.length_append, List.length_cons, List.length_nil]; omega)
    have h4 := bb_LF_z lf4
    have bl4 := bb_BL_fr bl3 (bb_LF_r lf4)
    obtain ⟨-, c43, c44, cs4⟩ := id bl4
    obtain ⟨c48, c411, c49⟩ := cs4 k (by omega) hkn
    have lf14 := bb_LF_trans (bb_LF_trans (bb_LF_trans lf1 lf2) lf3) lf4
    have le4 := bb_l4_le g e k (bb_lz g e k)
    have ct4 : bb_ct (D4 z4.1) (D4 497 3) (bb_l4 g e k (bb_lz g e k)) := ct4
    have hpt := ha.2.2
    by_cases ht : bb_R g e (7 + 3 * (k : Int) + 2) = 1
    · by_cases hs4 : (k : Int) < bb_R g e 4
      · skip
        have q5 : bb_l5 g e k (bb_l4 g e k (bb_lz g e k)) = (bb_l4 g e k (bb_lz g e k)) ++ [33] := if_pos ht
        obtain ⟨D5, z5, e5, sb5, ct5, lf5⟩ := bb_y189 (K := K) (D := D4) (L := L) (z := z4) (x := 33) (l := (bb_l4 g e k (bb_lz g e k))) sb4 ct4 (by decide) (by decide) (by omega)
        have h5 := bb_LF_z lf5
        have bl5 := bb_BL_fr bl4 (bb_LF_r lf5)
        obtain ⟨-, c53, c54, -⟩ := id bl5
        have lf15 := bb_LF_trans lf14 lf5
        rw [← q5] at ct5
        have q6 : bb_l6 g e k (bb_l5 g e k (bb_l4 g e k (bb_lz g e k))) = (bb_l5 g e k (bb_l4 g e k (bb_lz g e k))) ++ [115] := if_pos hs4
        have le5 := bb_l5_le g e k (bb_l4 g e k (bb_lz g e k))
        obtain ⟨D6, z6, e6, sb6, ct6, lf6⟩ := bb_y189 (K := K) (D := D5) (L := L) (z := z5) (x := 115) (l := (bb_l5 g e k (bb_l4 g e k (bb_lz g e k)))) sb5 ct5 (by decide) (by decide) (by omega)
        have h6 := bb_LF_z lf6
        have bl6 := bb_BL_fr bl5 (bb_LF_r lf6)
        have lf16 := bb_LF_trans lf15 lf6
        rw [← q6] at ct6
        obtain ⟨D9, z9, i1, i2, i3, i4⟩ := bb_l107 (K := K) hw hb (k + 1) (D6) L (z6) (by omega) sb6 ct6 bl6
        refine ⟨D9, z9, ?_, i2, i3, bb_LF_trans (lf16) i4⟩
        refine ab_e107_30.trans ?_
        rw [← i1, kc]
        simp (discharger := first | assumption | exact True.intro | exact not_false | (refine ab_gK ?_; with_unfolding_all rfl) | exact ab_rgI (by omega) (by omega) | omega) only [e1, e2, e3, e4, c03, c18, c39, c411, c44, ab_re_v h1, ab_re_v h2, ab_re_v h3, ab_re_v h4, e5, ab_re_v h5, c54, e6, ab_re_v h6, ab_e107_0, ab_e107_1, ab_e107_2, ab_e107_5, ab_e107_6, ab_e107_7, ab_e107_10, ab_e107_11, ab_e107_14, ab_e107_15, ab_e107_18, ab_e107_19, ab_e107_22, ab_e107_24, ab_e107_27, ab_e107_28, ab_e107_29, ab_e107_31, ab_e107_32, ab_e107_35, ab_e107_38, ab_e107_39, ab_e107_42, ab_e107_44, ab_e107_47, ab_e107_48, ab_e107_51, ab_e107_52, ab_e107_53, ab_e107_56, ab_e107_58, ab_e107_61, ab_e107_62, ab_e107_65, ab_e107_66, ab_e107_67, ab_e107_70, ab_e107_71, ab_e107_72, ab_e107_75, ab_e107_76, ab_e107_77, ab_e107_80, ab_e107_81, ab_e107_84, ab_e107_86, ab_e107_89, ab_e107_90, ab_e107_91, ab_e107_92, ab_e107_95, ab_e107_98, ab_e107_99, ab_e107_102, ab_e107_104, ab_e107_107, ab_e107_108, ab_e107_111, ab_e107_115, ab_e107_118, ab_e107_121, ab_br_t, ab_br_f, ab_re_v (ab_zz _), ab_re_n (ab_zz _)]
      · skip
        have q5 : bb_l5 g e k (bb_l4 g e k (bb_lz g e k)) = (bb_l4 g e k (bb_lz g e k)) ++ [33] := if_pos ht
        obtain ⟨D5, z5, e5, sb5, ct5, lf5⟩ := bb_y189 (K := K) (D := D4) (L := L) (z := z4) (x := 33) (l := (bb_l4 g e k (bb_lz g e k))) sb4 ct4 (by decide) (by decide) (by omega)
        have h5 := bb_LF_z lf5
        have bl5 := bb_BL_fr bl4 (bb_LF_r lf5)
        obtain ⟨-, c53, c54, -⟩ := id bl5
        have lf15 := bb_LF_trans lf14 lf5
        rw [← q5] at ct5
        have q6 : bb_l6 g e k (bb_l5 g e k (bb_l4 g e k (bb_lz g e k))) = (bb_l5 g e k (bb_l4 g e k (bb_lz g e k))) := if_neg hs4
        have le5 := bb_l5_le g e k (bb_l4 g e k (bb_lz g e k))
        rw [← q6] at ct5
        obtain ⟨D9, z9, i1, i2, i3, i4⟩ := bb_l107 (K := K) hw hb (k + 1) (D5) L (z5) (by omega) sb5 ct5 bl5
        refine ⟨D9, z9, ?_, i2, i3, bb_LF_trans (lf15) i4⟩
        refine ab_e107_30.trans ?_
        rw [← i1, kc]
        simp (discharger := first | assumption | exact True.intro | exact not_false | (refine ab_gK ?_; with_unfolding_all rfl) | exact ab_rgI (by omega) (by omega) | omega) only [e1, e2, e3, e4, c03, c18, c39, c411, c44, ab_re_v h1, ab_re_v h2, ab_re_v h3, ab_re_v h4, e5, ab_re_v h5, c54, ab_e107_0, ab_e107_1, ab_e107_2, ab_e107_5, ab_e107_6, ab_e107_7, ab_e107_10, ab_e107_11, ab_e107_14, ab_e107_15, ab_e107_18, ab_e107_19, ab_e107_22, ab_e107_24, ab_e107_27, ab_e107_28, ab_e107_29, ab_e107_31, ab_e107_32, ab_e107_35, ab_e107_38, ab_e107_39, ab_e107_42, ab_e107_44, ab_e107_47, ab_e107_48, ab_e107_51, ab_e107_52, ab_e107_53, ab_e107_56, ab_e107_58, ab_e107_61, ab_e107_62, ab_e107_65, ab_e107_66, ab_e107_67, ab_e107_70, ab_e107_71, ab_e107_72, ab_e107_75, ab_e107_76, ab_e107_77, ab_e107_80, ab_e107_81, ab_e107_84, ab_e107_86, ab_e107_89, ab_e107_90, ab_e107_91, ab_e107_92, ab_e107_95, ab_e107_98, ab_e107_99, ab_e107_102, ab_e107_104, ab_e107_107, ab_e107_108, ab_e107_111, ab_e107_115, ab_e107_118, ab_e107_121, ab_br_t, ab_br_f, ab_re_v (ab_zz _), ab_re_n (ab_zz _)]
    · have ht0 : bb_R g e (7 + 3 * (k : Int) + 2) = 0 := by omega
      by_cases hs4 : (k : Int) < bb_R g e 4
      · skip
        have q5 : bb_l5 g e k (bb_l4 g e k (bb_lz g e k)) = (bb_l4 g e k (bb_lz g e k)) := if_neg ht
        rw [← q5] at ct4
        have q6 : bb_l6 g e k (bb_l5 g e k (bb_l4 g e k (bb_lz g e k))) = (bb_l5 g e k (bb_l4 g e k (bb_lz g e k))) ++ [115] := if_pos hs4
        have le5 := bb_l5_le g e k (bb_l4 g e k (bb_lz g e k))
        obtain ⟨D6, z6, e6, sb6, ct6, lf6⟩ := bb_y189 (K := K) (D := D4) (L := L) (z := z4) (x := 115) (l := (bb_l5 g e k (bb_l4 g e k (bb_lz g e k)))) sb4 ct4 (by decide) (by decide) (by omega)
        have h6 := bb_LF_z lf6
        have bl6 := bb_BL_fr bl4 (bb_LF_r lf6)
        have lf16 := bb_LF_trans lf14 lf6
        rw [← q6] at ct6
        obtain ⟨D9, z9, i1, i2, i3, i4⟩ := bb_l107 (K := K) hw hb (k + 1) (D6) L (z6) (by omega) sb6 ct6 bl6
        refine ⟨D9, z9, ?_, i2, i3, bb_LF_trans (lf16) i4⟩
        refine ab_e107_30.trans ?_
        rw [← i1, kc]
        simp (discharger := first | assumption | exact True.intro | exact not_false | (refine ab_gK ?_; with_unfolding_all rfl) | exact ab_rgI (by omega) (by omega) | omega) only [e1, e2, e3, e4, c03, c18, c39, c411, c44, ab_re_v h1, ab_re_v h2, ab_re_v h3, ab_re_v h4, e6, ab_re_v h6, ab_e107_0, ab_e107_1, ab_e107_2, ab_e107_5, ab_e107_6, ab_e107_7, ab_e107_10, ab_e107_11, ab_e107_14, ab_e107_15, ab_e107_18, ab_e107_19, ab_e107_22, ab_e107_24, ab_e107_27, ab_e107_28, ab_e107_29, ab_e107_31, ab_e107_32, ab_e107_35, ab_e107_38, ab_e107_39, ab_e107_42, ab_e107_44, ab_e107_47, ab_e107_48, ab_e107_51, ab_e107_52, ab_e107_53, ab_e107_56, ab_e107_58, ab_e107_61, ab_e107_62, ab_e107_65, ab_e107_66, ab_e107_67, ab_e107_70, ab_e107_71, ab_e107_72, ab_e107_75, ab_e107_76, ab_e107_77, ab_e107_80, ab_e107_81, ab_e107_84, ab_e107_86, ab_e107_89, ab_e107_90, ab_e107_91, ab_e107_92, ab_e107_95, ab_e107_98, ab_e107_99, ab_e107_102, ab_e107_104, ab_e107_107, ab_e107_108, ab_e107_111, ab_e107_115, ab_e107_118, ab_e107_121, ab_br_t, ab_br_f, ab_re_v (ab_zz _), ab_re_n (ab_zz _)]
      · skip
        have q5 : bb_l5 g e k (bb_l4 g e k (bb_lz g e k)) = (bb_l4 g e k (bb_lz g e k)) := if_neg ht
        rw [← q5] at ct4
        have q6 : bb_l6 g e k (bb_l5 g e k (bb_l4 g e k (bb_lz g e k))) = (bb_l5 g e k (bb_l4 g e k (bb_lz g e k))) := if_neg hs4
        have le5 := bb_l5_le g e k (bb_l4 g e k (bb_lz g e k))
        rw [← q6] at ct4
        obtain ⟨D9, z9, i1, i2, i3, i4⟩ := bb_l107 (K := K) hw hb (k + 1) (D4) L (z4) (by omega) sb4 ct4 bl4
        refine ⟨D9, z9, ?_, i2, i3, bb_LF_trans (lf14) i4⟩
        refine ab_e107_30.trans ?_
        rw [← i1, kc]
        simp (discharger := first | assumption | exact True.intro | exact not_false | (refine ab_gK ?_; with_unfolding_all rfl) | exact ab_rgI (by omega) (by omega) | omega) only [e1, e2, e3, e4, c03, c18, c39, c411, c44, ab_re_v h1, ab_re_v h2, ab_re_v h3, ab_re_v h4, ab_e107_0, ab_e107_1, ab_e107_2, ab_e107_5, ab_e107_6, ab_e107_7, ab_e107_10, ab_e107_11, ab_e107_14, ab_e107_15, ab_e107_18, ab_e107_19, ab_e107_22, ab_e107_24, ab_e107_27, ab_e107_28, ab_e107_29, ab_e107_31, ab_e107_32, ab_e107_35, ab_e107_38, ab_e107_39, ab_e107_42, ab_e107_44, ab_e107_47, ab_e107_48, ab_e107_51, ab_e107_52, ab_e107_53, ab_e107_56, ab_e107_58, ab_e107_61, ab_e107_62, ab_e107_65, ab_e107_66, ab_e107_67, ab_e107_70, ab_e107_71, ab_e107_72, ab_e107_75, ab_e107_76, ab_e107_77, ab_e107_80, ab_e107_81, ab_e107_84, ab_e107_86, ab_e107_89, ab_e107_90, ab_e107_91, ab_e107_92, ab_e107_95, ab_e107_98, ab_e107_99, ab_e107_102, ab_e107_104, ab_e107_107, ab_e107_108, ab_e107_111, ab_e107_115, ab_e107_118, ab_e107_121, ab_br_t, ab_br_f, ab_re_v (ab_zz _), ab_re_n (ab_zz _)]
  · obtain ⟨-, c03, c04, -⟩ := id bl0
    have hk : bb_R g e 3 = (k : Int) := by omega
    have hk2 : (bb_R g e 3).toNat = k := by omega
    refine ⟨D0, z0, ?_, sb0, by rw [hk2]; exact ct0, bb_LF_refl D0 z0⟩
    rw [ab_e107_30]
    simp (discharger := first | assumption | exact True.intro | exact not_false | (refine ab_gK ?_; with_unfolding_all rfl) | exact ab_rgI (by omega) (by omega) | omega) only [c03, bb_y185, ab_e107_0, ab_e107_1, ab_e107_2, ab_e107_5, ab_e107_6, ab_e107_7, ab_e107_10, ab_e107_11, ab_e107_14, ab_e107_15, ab_e107_18, ab_e107_19, ab_e107_22, ab_e107_24, ab_e107_27, ab_e107_28, ab_e107_29, ab_e107_31, ab_e107_32, ab_e107_35, ab_e107_38, ab_e107_39, ab_e107_42, ab_e107_44, ab_e107_47, ab_e107_48, ab_e107_51, ab_e107_52, ab_e107_53, ab_e107_56, ab_e107_58, ab_e107_61, ab_e107_62, ab_e107_65, ab_e107_66, ab_e107_67, ab_e107_70, ab_e107_71, ab_e107_72, ab_e107_75, ab_e107_76, ab_e107_77, ab_e107_80, ab_e107_81, ab_e107_84, ab_e107_86, ab_e107_89, ab_e107_90, ab_e107_91, ab_e107_92, ab_e107_95, ab_e107_98, ab_e107_99, ab_e107_102, ab_e107_104, ab_e107_107, ab_e107_108, ab_e107_111, ab_e107_114, ab_e107_115, ab_e107_118, ab_e107_121, ab_br_t, ab_br_f, ab_re_v (ab_zz _), ab_re_n (ab_zz _)]
termination_by (bb_R g e 3 - k).toNat
decreasing_by all_goals omega

