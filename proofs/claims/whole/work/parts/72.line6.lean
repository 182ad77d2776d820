/-! ===== the line, in the model ===== -/
def bb_MF (D D' : Nat → Int → Int) : Prop := (∀ i, i ≠ 500 → i ≠ 506 → D' i = D i) ∧ ∀ k, k ≠ 15 → D' 500 k = D 500 k
theorem bb_MF_refl (D : Nat → Int → Int) : bb_MF D D := ⟨fun _ _ _ => rfl, fun _ _ => rfl⟩
theorem bb_MF_trans {D1 D2 D3 : Nat → Int → Int} (h : bb_MF D1 D2) (h' : bb_MF D2 D3) : bb_MF D1 D3 := ⟨fun i a b => (h'.1 i a b).trans (h.1 i a b), fun k a => (h'.2 k a).trans (h.2 k a)⟩
theorem bb_y109 {K : ab_Kt} {D : Nat → Int → Int} {L : Nat → Int → Int64} {z : ab_Z} {x : Int} {l : List Int} (ct : bb_ct (D 506) (D 500 15) l) (h0 : 0 ≤ x) (h1 : x < 65536) (h2 : l.length < 140) : ∃ D', ab_cal K 109 [.ref 500, .int (ab_I x)] (ab_mk D L z) = some (.inl none, ab_mk D' L z) ∧ bb_ct (D' 506) (D' 500 15) (l ++ [x]) ∧ bb_MF D D' := by
  have hl := ct.1
  obtain ⟨W, hW⟩ : ∃ W, W = ab_u D 506 (D 500 15) x := ⟨_, rfl⟩
  have w15 : W 500 15 = D 500 15 := by rw [hW, ab_u_row (by decide)]
  refine ⟨ab_u W 500 15 (D 500 15 + 1), ?_, ?_, fun i a b => by rw [ab_u_row a, hW, ab_u_row b], fun k a => by rw [ab_u_ne (.inr a), hW, ab_u_row (by decide)]⟩
  · skip
    simp (discharger := first | assumption | exact True.intro | exact not_false | (refine ab_gK ?_; with_unfolding_all rfl) | exact ab_rgI (by omega) (by omega) | omega) only [ab_a109, ← hW, w15, ab_e109_0, ab_e109_1, ab_e109_4, ab_e109_5, ab_e109_8, bb_e109_9, ab_e109_10, ab_e109_11, ab_e109_12, ab_e109_13, ab_e109_16, ab_e109_17, ab_e109_18, ab_e109_21, ab_br_t, ab_br_f, ab_re_v (ab_zz _), ab_re_n (ab_zz _)]
  · rw [ab_u_row (by decide), ab_u_eq, hW]
    refine bb_ct_push ct rfl (fun j j0 j1 => ?_) ?_
    · rw [ab_u_if, if_neg (by omega)]
    · rw [ab_u_eq]

theorem bb_y108 {K : ab_Kt} {D : Nat → Int → Int} {L : Nat → Int → Int64} {z : ab_Z} {x : Int} {l : List Int} (ct : bb_ct (D 506) (D 500 15) l) (h0 : 0 ≤ x) (h1 : x < 200) (h2 : l.length < 130) : ∃ D', ab_cal K 108 [.ref 500, .int (ab_I x)] (ab_mk D L z) = some (.inl none, ab_mk D' L z) ∧ bb_ct (D' 506) (D' 500 15) (l ++ bb_dg x) ∧ bb_MF D D' := by
  have hx : ab_rg x := ab_rgI (by omega) (by omega)
  by_cases a : x < 10
  · obtain ⟨D1, e1, c1, f1⟩ := bb_y109 (K := K) (L := L) (z := z) (x := 48 + x % 10) ct (by omega) (by omega) (by omega)
    rw [show bb_dg x = [48 + x % 10] by unfold bb_dg; rw [if_pos a, show x % 10 = x by omega]]
    refine ⟨D1, ?_, c1, f1⟩
    simp (discharger := first | assumption | exact True.intro | exact not_false | (refine ab_gK ?_; with_unfolding_all rfl) | exact ab_rgI (by omega) (by omega) | omega) only [ab_a108, e1, ab_e108_0, ab_e108_1, ab_e108_3, ab_e108_6, ab_e108_7, ab_e108_9, ab_e108_10, ab_e108_12, ab_e108_13, ab_e108_14, ab_e108_17, ab_e108_18, ab_e108_20, ab_e108_23, ab_e108_24, ab_e108_26, ab_e108_27, ab_e108_29, ab_e108_30, ab_e108_32, ab_e108_33, ab_e108_34, ab_e108_37, ab_e108_38, ab_e108_40, ab_e108_41, ab_e108_43, ab_e108_44, ab_e108_45, ab_e108_48, ab_br_t, ab_br_f, ab_re_v (ab_zz _), ab_re_n (ab_zz _)]
  by_cases b : x < 100
  · obtain ⟨D1, e1, c1, f1⟩ := bb_y109 (K := K) (L := L) (z := z) (x := 48 + x / 10 % 10) ct (by omega) (by omega) (by omega)
    have l1 : (l ++ [48 + x / 10 % 10]).length = l.length + 1 := by simp only [List.length_append, List.length_cons, List.length_nil]
    obtain ⟨D2, e2, c2, f2⟩ := bb_y109 (K := K) (L := L) (z := z) (x := 48 + x % 10) c1 (by omega) (by omega) (by omega)
    rw [show bb_dg x = [48 + x / 10 % 10, 48 + x % 10] by unfold bb_dg; rw [if_neg a, if_pos b, show x / 10 % 10 = x / 10 by omega]]
    rw [List.append_assoc] at c2
    refine ⟨D2, ?_, c2, bb_MF_trans f1 f2⟩
    simp (discharger := first | assumption | exact True.intro | exact not_false | (refine ab_gK ?_; with_unfolding_all rfl) | exact ab_rgI (by omega) (by omega) | omega) only [ab_a108, e1, e2, ab_e108_0, ab_e108_1, ab_e108_3, ab_e108_6, ab_e108_7, ab_e108_9, ab_e108_10, ab_e108_12, ab_e108_13, ab_e108_14, ab_e108_17, ab_e108_18, ab_e108_20, ab_e108_23, ab_e108_24, ab_e108_26, ab_e108_27, ab_e108_29, ab_e108_30, ab_e108_32, ab_e108_33, ab_e108_34, ab_e108_37, ab_e108_38, ab_e108_40, ab_e108_41, ab_e108_43, ab_e108_44, ab_e108_45, ab_e108_48, ab_br_t, ab_br_f, ab_re_v (ab_zz _), ab_re_n (ab_zz _)]
  · obtain ⟨D0, e0, c0, f0⟩ := bb_y109 (K := K) (L := L) (z := z) (x := 48 + x / 100) ct (by omega) (by omega) (by omega)
    have l0 : (l ++ [48 + x / 100]).length = l.length + 1 := by simp only [List.length_append, List.length_cons, List.length_nil]
    obtain ⟨D1, e1, c1, f1⟩ := bb_y109 (K := K) (L := L) (z := z) (x := 48 + x / 10 % 10) c0 (by omega) (by omega) (by omega)
    have l1 : (l ++ [48 + x / 100] ++ [48 + x / 10 % 10]).length = l.length + 2 := by simp only [List.length_append, List.length_cons, List.length_nil]
    obtain ⟨D2, e2, c2, f2⟩ := bb_y109 (K := K) (L := L) (z := z) (x := 48 + x % 10) c1 (by omega) (by omega) (by omega)
    rw [show bb_dg x = [48 + x / 100, 48 + x / 10 % 10, 48 + x % 10] by unfold bb_dg; rw [if_neg a, if_neg b]]
    rw [List.append_assoc, List.append_assoc] at c2
    refine ⟨D2, ?_, c2, bb_MF_trans (bb_MF_trans f0 f1) f2⟩
    simp (discharger := first | assumption | exact True.intro | exact not_false | (refine ab_gK ?_; with_unfolding_all rfl) | exact ab_rgI (by omega) (by omega) | omega) only [ab_a108, e0, e1, e2, ab_e108_0, ab_e108_1, ab_e108_3, ab_e108_6, ab_e108_7, ab_e108_9, ab_e108_10, ab_e108_12, ab_e108_13, ab_e108_14, ab_e108_17, ab_e108_18, ab_e108_20, ab_e108_23, ab_e108_24, ab_e108_26, ab_e108_27, ab_e108_29, ab_e108_30, ab_e108_32, ab_e108_33, ab_e108_34, ab_e108_37, ab_e108_38, ab_e108_40, ab_e108_41, ab_e108_43, ab_e108_44, ab_e108_45, ab_e108_48, ab_br_t, ab_br_f, ab_re_v (ab_zz _), ab_re_n (ab_zz _)]

theorem bb_l19 {K : ab_Kt} {g : Int → Int} {e mn : Int} (hw : bb_WB g e mn) (ee0 : 0 ≤ e) (ee6 : e < 6) (hI : ab_IR g e) (k : Nat) (D0 : Nat → Int → Int) (L : Nat → Int → Int64) (z : ab_Z) (hkn9 : (k : Int) ≤ bb_R g e 3) (ct0 : bb_ct (D0 506) (D0 500 15) (bb_lz g e k)) (g0 : D0 501 = g) : ∃ D', ab_ev K 19 40 [some (.ref 500), some (.int (ab_I e)), some (.int (ab_I (k : Int)))] [] (ab_mk D0 L z) = some (.inl (some (.int (ab_I (D' 500 15)))), ab_mk D' L z) ∧ bb_ct (D' 506) (D' 500 15) (bb_lz g e (bb_R g e 3).toNat) ∧ bb_MF D0 D' := by
  have hn := bb_WB_n hw
  by_cases hkn : (k : Int) < bb_R g e 3
  · have ha := bb_WB_a hw (s := k) (by omega) (by omega)
    have hs := bb_WB_s hw (s := k) (by omega) hkn
    have hp : 2 ≤ ab_pw (bb_R g e (7 + 3 * (k : Int) + 1)) ∧ ab_pw (bb_R g e (7 + 3 * (k : Int) + 1)) ≤ 16 := by unfold ab_pw; (repeat' split) <;> omega
    have le0 := bb_lz_le g e k
    have k12 : (k : Int) < 12 := by omega
    have kc : ((k + 1 : Nat) : Int) = (k : Int) + 1 := by omega
    have dl1 := bb_dg_le (bb_R g e (7 + 3 * (k : Int) + 0))
    have dl2 := bb_dg_le (bb_R g e (7 + 3 * (k : Int) + 0) + ab_pw (bb_R g e (7 + 3 * (k : Int) + 1)) - 1)
    have hsz : ab_rsz g e (k : Int) = ab_pw (bb_R g e (7 + 3 * (k : Int) + 1)) := rfl
    obtain ⟨D1, e1, ct1, lf1⟩ := bb_y109 (K := K) (D := D0) (L := L) (z := z) (x := 32) (l := bb_lz g e k) ct0 (by decide) (by decide) (by omega)
    have g1 : D1 501 = g := (lf1.1 501 (by decide) (by decide)).trans g0
    obtain ⟨D2, e2, ct2, lf2⟩ := bb_y108 (K := K) (D := D1) (L := L) (z := z) (x := (bb_R g e (7 + 3 * (k : Int) + 0))) (l := bb_lz g e k ++ [32]) ct1 (by omega) (by omega) (by simp only [List.length_append, List.length_cons, List.length_nil]; omega)
    have g2 : D2 501 = g := (lf2.1 501 (by decide) (by decide)).trans g1
    obtain ⟨D3, e3, ct3, lf3⟩ := bb_y109 (K := K) (D := D2) (L := L) (z := z) (x := 45) (l := (bb_lz g e k ++ [32]) ++ bb_dg (bb_R g e (7 + 3 * (k : Int) + 0))) ct2 (by decide) (by decide) (by simp only [List.length_append, List.length_cons, List.length_nil]; omega)
    have g3 : D3 501 = g := (lf3.1 501 (by decide) (by decide)).trans g2
    obtain ⟨D4, e4, ct4, lf4⟩ := bb_y108 (K := K) (D := D3) (L := L) (z := z) (x := (bb_R g e (7 + 3 * (k : Int) + 0) + ab_pw (bb_R g e (7 + 3 * (k : Int) + 1)) - 1)) (l := ((bb_lz g e k ++ [32]) ++ bb_dg (bb_R g e (7 + 3 * (k : Int) + 0))) ++ [45]) ct3 (by omega) (by omega) (by simp only [List.length_append, List.length_cons, List.length_nil]; omega)
    have g4 : D4 501 = g := (lf4.1 501 (by decide) (by decide)).trans g3
    have lf14 := bb_MF_trans (bb_MF_trans (bb_MF_trans lf1 lf2) lf3) lf4
    have le4 := bb_l4_le g e k (bb_lz g e k)
    have ct4 : bb_ct (D4 506) (D4 500 15) (bb_l4 g e k (bb_lz g e k)) := ct4
    have hpt := ha.2.2
    by_cases ht : bb_R g e (7 + 3 * (k : Int) + 2) = 1
    · by_cases hs4 : (k : Int) < bb_R g e 4
      · skip
        have q5 : bb_l5 g e k (bb_l4 g e k (bb_lz g e k)) = (bb_l4 g e k (bb_lz g e k)) ++ [33] := if_pos ht
        obtain ⟨D5, e5, ct5, lf5⟩ := bb_y109 (K := K) (D := D4) (L := L) (z := z) (x := 33) (l := (bb_l4 g e k (bb_lz g e k))) ct4 (by decide) (by decide) (by omega)
        have g5 : D5 501 = g := (lf5.1 501 (by decide) (by decide)).trans g4
        have lf15 := bb_MF_trans lf14 lf5
        rw [← q5] at ct5
        have q6 : bb_l6 g e k (bb_l5 g e k (bb_l4 g e k (bb_lz g e k))) = (bb_l5 g e k (bb_l4 g e k (bb_lz g e k))) ++ [115] := if_pos hs4
        have le5 := bb_l5_le g e k (bb_l4 g e k (bb_lz g e k))
        obtain ⟨D6, e6, ct6, lf6⟩ := bb_y109 (K := K) (D := D5) (L := L) (z := z) (x := 115) (l := (bb_l5 g e k (bb_l4 g e k (bb_lz g e k)))) ct5 (by decide) (by decide) (by omega)
        have g6 : D6 501 = g := (lf6.1 501 (by decide) (by decide)).trans g5
        have lf16 := bb_MF_trans lf15 lf6
        rw [← q6] at ct6
        obtain ⟨D9, i1, i3, i4⟩ := bb_l19 (K := K) hw ee0 ee6 hI (k + 1) (D6) L z (by omega) ct6 g6
        refine ⟨D9, ?_, i3, bb_MF_trans (lf16) i4⟩
        refine ab_e19_40.trans ?_
        rw [← i1, kc]
        have hI0 : ab_IR (D0 501) e := by rw [g0]; exact hI
        have n0 : bb_R (D0 501) e 3 = bb_R g e 3 := by rw [g0]
        have w0 : bb_R (D0 501) e 4 = bb_R g e 4 := by rw [g0]
        have f0 : bb_R (D0 501) e (7 + 3 * (k : Int) + 0) = bb_R g e (7 + 3 * (k : Int) + 0) := by rw [g0]
        have t0 : bb_R (D0 501) e (7 + 3 * (k : Int) + 2) = bb_R g e (7 + 3 * (k : Int) + 2) := by rw [g0]
        have z0 : ab_rsz (D0 501) e (k : Int) = ab_pw (bb_R g e (7 + 3 * (k : Int) + 1)) := by rw [g0]; rfl
        have hI1 : ab_IR (D1 501) e := by rw [g1]; exact hI
        have n1 : bb_R (D1 501) e 3 = bb_R g e 3 := by rw [g1]
        have w1 : bb_R (D1 501) e 4 = bb_R g e 4 := by rw [g1]
        have f1 : bb_R (D1 501) e (7 + 3 * (k : Int) + 0) = bb_R g e (7 + 3 * (k : Int) + 0) := by rw [g1]
        have t1 : bb_R (D1 501) e (7 + 3 * (k : Int) + 2) = bb_R g e (7 + 3 * (k : Int) + 2) := by rw [g1]
        have z1 : ab_rsz (D1 501) e (k : Int) = ab_pw (bb_R g e (7 + 3 * (k : Int) + 1)) := by rw [g1]; rfl
        have hI2 : ab_IR (D2 501) e := by rw [g2]; exact hI
        have n2 : bb_R (D2 501) e 3 = bb_R g e 3 := by rw [g2]
        have w2 : bb_R (D2 501) e 4 = bb_R g e 4 := by rw [g2]
        have f2 : bb_R (D2 501) e (7 + 3 * (k : Int) + 0) = bb_R g e (7 + 3 * (k : Int) + 0) := by rw [g2]
        have t2 : bb_R (D2 501) e (7 + 3 * (k : Int) + 2) = bb_R g e (7 + 3 * (k : Int) + 2) := by rw [g2]
        have z2 : ab_rsz (D2 501) e (k : Int) = ab_pw (bb_R g e (7 + 3 * (k : Int) + 1)) := by rw [g2]; rfl
        have hI3 : ab_IR (D3 501) e := by rw [g3]; exact hI
        have n3 : bb_R (D3 501) e 3 = bb_R g e 3 := by rw [g3]
        have w3 : bb_R (D3 501) e 4 = bb_R g e 4 := by rw [g3]
        have f3 : bb_R (D3 501) e (7 + 3 * (k : Int) + 0) = bb_R g e (7 + 3 * (k : Int) + 0) := by rw [g3]
        have t3 : bb_R (D3 501) e (7 + 3 * (k : Int) + 2) = bb_R g e (7 + 3 * (k : Int) + 2) := by rw [g3]
        have z3 : ab_rsz (D3 501) e (k : Int) = ab_pw (bb_R g e (7 + 3 * (k : Int) + 1)) := by rw [g3]; rfl
        have hI4 : ab_IR (D4 501) e := by rw [g4]; exact hI
        have n4 : bb_R (D4 501) e 3 = bb_R g e 3 := by rw [g4]
        have w4 : bb_R (D4 501) e 4 = bb_R g e 4 := by rw [g4]
        have f4 : bb_R (D4 501) e (7 + 3 * (k : Int) + 0) = bb_R g e (7 + 3 * (k : Int) + 0) := by rw [g4]
        have t4 : bb_R (D4 501) e (7 + 3 * (k : Int) + 2) = bb_R g e (7 + 3 * (k : Int) + 2) := by rw [g4]
        have z4 : ab_rsz (D4 501) e (k : Int) = ab_pw (bb_R g e (7 + 3 * (k : Int) + 1)) := by rw [g4]; rfl
        have hI5 : ab_IR (D5 501) e := by rw [g5]; exact hI
        have n5 : bb_R (D5 501) e 3 = bb_R g e 3 := by rw [g5]
        have w5 : bb_R (D5 501) e 4 = bb_R g e 4 := by rw [g5]
        have f5 : bb_R (D5 501) e (7 + 3 * (k : Int) + 0) = bb_R g e (7 + 3 * (k : Int) + 0) := by rw [g5]
        have t5 : bb_R (D5 501) e (7 + 3 * (k : Int) + 2) = bb_R g e (7 + 3 * (k : Int) + 2) := by rw [g5]
        have z5 : ab_rsz (D5 501) e (k : Int) = ab_pw (bb_R g e (7 + 3 * (k : Int) + 1)) := by rw [g5]; rfl
        have hI6 : ab_IR (D6 501) e := by rw [g6]; exact hI
        have n6 : bb_R (D6 501) e 3 = bb_R g e 3 := by rw [g6]
        have w6 : bb_R (D6 501) e 4 = bb_R g e 4 := by rw [g6]
        have f6 : bb_R (D6 501) e (7 + 3 * (k : Int) + 0) = bb_R g e (7 + 3 * (k : Int) + 0) := by rw [g6]
        have t6 : bb_R (D6 501) e (7 + 3 * (k : Int) + 2) = bb_R g e (7 + 3 * (k : Int) + 2) := by rw [g6]
        have z6 : ab_rsz (D6 501) e (k : Int) = ab_pw (bb_R g e (7 + 3 * (k : Int) + 1)) := by rw [g6]; rfl
        simp (discharger := first | assumption | exact True.intro | exact not_false | (refine ab_gK ?_; with_unfolding_all rfl) | exact ab_rgI (by omega) (by omega) | omega) only [e1, e2, e3, e4, ab_y110, ab_y111, e5, e6, n0, w0, f0, t0, z0, ab_y112 ee0 ee6 hI0, n1, w1, f1, t1, z1, ab_y112 ee0 ee6 hI1, n2, w2, f2, t2, z2, ab_y112 ee0 ee6 hI2, n3, w3, f3, t3, z3, ab_y112 ee0 ee6 hI3, n4, w4, f4, t4, z4, ab_y112 ee0 ee6 hI4, n5, w5, f5, t5, z5, ab_y112 ee0 ee6 hI5, n6, w6, f6, t6, z6, ab_y112 ee0 ee6 hI6, ab_e19_0, ab_e19_1, ab_e19_2, ab_e19_3, ab_e19_6, ab_e19_9, ab_e19_10, ab_e19_13, ab_e19_14, ab_e19_17, ab_e19_20, ab_e19_21, ab_e19_22, ab_e19_23, ab_e19_24, ab_e19_27, ab_e19_28, ab_e19_29, ab_e19_32, ab_e19_33, ab_e19_35, ab_e19_38, ab_e19_39, ab_e19_41, ab_e19_42, ab_e19_43, ab_e19_44, ab_e19_47, ab_e19_50, ab_e19_51, ab_e19_53, ab_e19_56, ab_e19_57, ab_e19_58, ab_e19_59, ab_e19_60, ab_e19_61, ab_e19_64, ab_e19_67, ab_e19_68, ab_e19_70, ab_e19_73, ab_e19_74, ab_e19_75, ab_e19_76, ab_e19_77, ab_e19_78, ab_e19_81, ab_e19_82, ab_e19_83, ab_e19_84, ab_e19_87, ab_e19_88, ab_e19_89, ab_e19_90, ab_e19_93, ab_e19_94, ab_e19_95, ab_e19_96, ab_e19_97, ab_e19_100, ab_e19_101, ab_e19_104, ab_e19_105, ab_e19_107, ab_e19_110, ab_e19_111, ab_e19_112, ab_e19_113, ab_e19_114, ab_e19_117, ab_e19_120, ab_e19_121, ab_e19_123, ab_e19_126, ab_e19_129, ab_e19_132, ab_e19_133, ab_e19_136, ab_br_t, ab_br_f, ab_re_v (ab_zz _), ab_re_n (ab_zz _)]
      · skip
        have q5 : bb_l5 g e k (bb_l4 g e k (bb_lz g e k)) = (bb_l4 g e k (bb_lz g e k)) ++ [33] := if_pos ht
        obtain ⟨D5, e5, ct5, lf5⟩ := bb_y109 (K := K) (D := D4) (L := L) (z := z) (x := 33) (l := (bb_l4 g e k (bb_lz g e k))) ct4 (by decide) (by decide) (by omega)
        have g5 : D5 501 = g := (lf5.1 501 (by decide) (by decide)).trans g4
        have lf15 := bb_MF_trans lf14 lf5
        rw [← q5] at ct5
        have q6 : bb_l6 g e k (bb_l5 g e k (bb_l4 g e k (bb_lz g e k))) = (bb_l5 g e k (bb_l4 g e k (bb_lz g e k))) := if_neg hs4
        have le5 := bb_l5_le g e k (bb_l4 g e k (bb_lz g e k))
        rw [← q6] at ct5
        obtain ⟨D9, i1, i3, i4⟩ := bb_l19 (K := K) hw ee0 ee6 hI (k + 1) (D5) L z (by omega) ct5 g5
        refine ⟨D9, ?_, i3, bb_MF_trans (lf15) i4⟩
        refine ab_e19_40.trans ?_
        rw [← i1, kc]
        have hI0 : ab_IR (D0 501) e := by rw [g0]; exact hI
        have n0 : bb_R (D0 501) e 3 = bb_R g e 3 := by rw [g0]
        have w0 : bb_R (D0 501) e 4 = bb_R g e 4 := by rw [g0]
        have f0 : bb_R (D0 501) e (7 + 3 * (k : Int) + 0) = bb_R g e (7 + 3 * (k : Int) + 0) := by rw [g0]
        have t0 : bb_R (D0 501) e (7 + 3 * (k : Int) + 2) = bb_R g e (7 + 3 * (k : Int) + 2) := by rw [g0]
        have z0 : ab_rsz (D0 501) e (k : Int) = ab_pw (bb_R g e (7 + 3 * (k : Int) + 1)) := by rw [g0]; rfl
        have hI1 : ab_IR (D1 501) e := by rw [g1]; exact hI
        have n1 : bb_R (D1 501) e 3 = bb_R g e 3 := by rw [g1]
        have w1 : bb_R (D1 501) e 4 = bb_R g e 4 := by rw [g1]
        have f1 : bb_R (D1 501) e (7 + 3 * (k : Int) + 0) = bb_R g e (7 + 3 * (k : Int) + 0) := by rw [g1]
        have t1 : bb_R (D1 501) e (7 + 3 * (k : Int) + 2) = bb_R g e (7 + 3 * (k : Int) + 2) := by rw [g1]
        have z1 : ab_rsz (D1 501) e (k : Int) = ab_pw (bb_R g e (7 + 3 * (k : Int) + 1)) := by rw [g1]; rfl
        have hI2 : ab_IR (D2 501) e := by rw [g2]; exact hI
        have n2 : bb_R (D2 501) e 3 = bb_R g e 3 := by rw [g2]
        have w2 : bb_R (D2 501) e 4 = bb_R g e 4 := by rw [g2]
        have f2 : bb_R (D2 501) e (7 + 3 * (k : Int) + 0) = bb_R g e (7 + 3 * (k : Int) + 0) := by rw [g2]
        have t2 : bb_R (D2 501) e (7 + 3 * (k : Int) + 2) = bb_R g e (7 + 3 * (k : Int) + 2) := by rw [g2]
        have z2 : ab_rsz (D2 501) e (k : Int) = ab_pw (bb_R g e (7 + 3 * (k : Int) + 1)) := by rw [g2]; rfl
        have hI3 : ab_IR (D3 501) e := by rw [g3]; exact hI
        have n3 : bb_R (D3 501) e 3 = bb_R g e 3 := by rw [g3]
        have w3 : bb_R (D3 501) e 4 = bb_R g e 4 := by rw [g3]
        have f3 : bb_R (D3 501) e (7 + 3 * (k : Int) + 0) = bb_R g e (7 + 3 * (k : Int) + 0) := by rw [g3]
        have t3 : bb_R (D3 501) e (7 + 3 * (k : Int) + 2) = bb_R g e (7 + 3 * (k : Int) + 2) := by rw [g3]
        have z3 : ab_rsz (D3 501) e (k : Int) = ab_pw (bb_R g e (7 + 3 * (k : Int) + 1)) := by rw [g3]; rfl
        have hI4 : ab_IR (D4 501) e := by rw [g4]; exact hI
        have n4 : bb_R (D4 501) e 3 = bb_R g e 3 := by rw [g4]
        have w4 : bb_R (D4 501) e 4 = bb_R g e 4 := by rw [g4]
        have f4 : bb_R (D4 501) e (7 + 3 * (k : Int) + 0) = bb_R g e (7 + 3 * (k : Int) + 0) := by rw [g4]
        have t4 : bb_R (D4 501) e (7 + 3 * (k : Int) + 2) = bb_R g e (7 + 3 * (k : Int) + 2) := by rw [g4]
        have z4 : ab_rsz (D4 501) e (k : Int) = ab_pw (bb_R g e (7 + 3 * (k : Int) + 1)) := by rw [g4]; rfl
        have hI5 : ab_IR (D5 501) e := by rw [g5]; exact hI
        have n5 : bb_R (D5 501) e 3 = bb_R g e 3 := by rw [g5]
        have w5 : bb_R (D5 501) e 4 = bb_R g e 4 := by rw [g5]
        have f5 : bb_R (D5 501) e (7 + 3 * (k : Int) + 0) = bb_R g e (7 + 3 * (k : Int) + 0) := by rw [g5]
        have t5 : bb_R (D5 501) e (7 + 3 * (k : Int) + 2) = bb_R g e (7 + 3 * (k : Int) + 2) := by rw [g5]
        have z5 : ab_rsz (D5 501) e (k : Int) = ab_pw (bb_R g e (7 + 3 * (k : Int) + 1)) := by rw [g5]; rfl
        simp (discharger := first | assumption | exact True.intro | exact not_false | (refine ab_gK ?_; with_unfolding_all rfl) | exact ab_rgI (by omega) (by omega) | omega) only [e1, e2, e3, e4, ab_y110, ab_y111, e5, n0, w0, f0, t0, z0, ab_y112 ee0 ee6 hI0, n1, w1, f1, t1, z1, ab_y112 ee0 ee6 hI1, n2, w2, f2, t2, z2, ab_y112 ee0 ee6 hI2, n3, w3, f3, t3, z3, ab_y112 ee0 ee6 hI3, n4, w4, f4, t4, z4, ab_y112 ee0 ee6 hI4, n5, w5, f5, t5, z5, ab_y112 ee0 ee6 hI5, ab_e19_0, ab_e19_1, ab_e19_2, ab_e19_3, ab_e19_6, ab_e19_9, ab_e19_10, ab_e19_13, ab_e19_14, ab_e19_17, ab_e19_20, ab_e19_21, ab_e19_22, ab_e19_23, ab_e19_24, ab_e19_27, ab_e19_28, ab_e19_29, ab_e19_32, ab_e19_33, ab_e19_35, ab_e19_38, ab_e19_39, ab_e19_41, ab_e19_42, ab_e19_43, ab_e19_44, ab_e19_47, ab_e19_50, ab_e19_51, ab_e19_53, ab_e19_56, ab_e19_57, ab_e19_58, ab_e19_59, ab_e19_60, ab_e19_61, ab_e19_64, ab_e19_67, ab_e19_68, ab_e19_70, ab_e19_73, ab_e19_74, ab_e19_75, ab_e19_76, ab_e19_77, ab_e19_78, ab_e19_81, ab_e19_82, ab_e19_83, ab_e19_84, ab_e19_87, ab_e19_88, ab_e19_89, ab_e19_90, ab_e19_93, ab_e19_94, ab_e19_95, ab_e19_96, ab_e19_97, ab_e19_100, ab_e19_101, ab_e19_104, ab_e19_105, ab_e19_107, ab_e19_110, ab_e19_111, ab_e19_112, ab_e19_113, ab_e19_114, ab_e19_117, ab_e19_120, ab_e19_121, ab_e19_123, ab_e19_126, ab_e19_129, ab_e19_132, ab_e19_133, ab_e19_136, ab_br_t, ab_br_f, ab_re_v (ab_zz _), ab_re_n (ab_zz _)]
    · have ht0 : bb_R g e (7 + 3 * (k : Int) + 2) = 0 := by omega
      by_cases hs4 : (k : Int) < bb_R g e 4
      · skip
        have q5 : bb_l5 g e k (bb_l4 g e k (bb_lz g e k)) = (bb_l4 g e k (bb_lz g e k)) := if_neg ht
        rw [← q5] at ct4
        have q6 : bb_l6 g e k (bb_l5 g e k (bb_l4 g e k (bb_lz g e k))) = (bb_l5 g e k (bb_l4 g e k (bb_lz g e k))) ++ [115] := if_pos hs4
        have le5 := bb_l5_le g e k (bb_l4 g e k (bb_lz g e k))
        obtain ⟨D6, e6, ct6, lf6⟩ := bb_y109 (K := K) (D := D4) (L := L) (z := z) (x := 115) (l := (bb_l5 g e k (bb_l4 g e k (bb_lz g e k)))) ct4 (by decide) (by decide) (by omega)
        have g6 : D6 501 = g := (lf6.1 501 (by decide) (by decide)).trans g4
        have lf16 := bb_MF_trans lf14 lf6
        rw [← q6] at ct6
        obtain ⟨D9, i1, i3, i4⟩ := bb_l19 (K := K) hw ee0 ee6 hI (k + 1) (D6) L z (by omega) ct6 g6
        refine ⟨D9, ?_, i3, bb_MF_trans (lf16) i4⟩
        refine ab_e19_40.trans ?_
        rw [← i1, kc]
        have hI0 : ab_IR (D0 501) e := by rw [g0]; exact hI
        have n0 : bb_R (D0 501) e 3 = bb_R g e 3 := by rw [g0]
        have w0 : bb_R (D0 501) e 4 = bb_R g e 4 := by rw [g0]
        have f0 : bb_R (D0 501) e (7 + 3 * (k : Int) + 0) = bb_R g e (7 + 3 * (k : Int) + 0) := by rw [g0]
        have t0 : bb_R (D0 501) e (7 + 3 * (k : Int) + 2) = bb_R g e (7 + 3 * (k : Int) + 2) := by rw [g0]
        have z0 : ab_rsz (D0 501) e (k : Int) = ab_pw (bb_R g e (7 + 3 * (k : Int) + 1)) := by rw [g0]; rfl
        have hI1 : ab_IR (D1 501) e := by rw [g1]; exact hI
        have n1 : bb_R (D1 501) e 3 = bb_R g e 3 := by rw [g1]
        have w1 : bb_R (D1 501) e 4 = bb_R g e 4 := by rw [g1]
        have f1 : bb_R (D1 501) e (7 + 3 * (k : Int) + 0) = bb_R g e (7 + 3 * (k : Int) + 0) := by rw [g1]
        have t1 : bb_R (D1 501) e (7 + 3 * (k : Int) + 2) = bb_R g e (7 + 3 * (k : Int) + 2) := by rw [g1]
        have z1 : ab_rsz (D1 501) e (k : Int) = ab_pw (bb_R g e (7 + 3 * (k : Int) + 1)) := by rw [g1]; rfl
        have hI2 : ab_IR (D2 501) e := by rw [g2]; exact hI
        have n2 : bb_R (D2 501) e 3 = bb_R g e 3 := by rw [g2]
        have w2 : bb_R (D2 501) e 4 = bb_R g e 4 := by rw [g2]
        have f2 : bb_R (D2 501) e (7 + 3 * (k : Int) + 0) = bb_R g e (7 + 3 * (k : Int) + 0) := by rw [g2]
        have t2 : bb_R (D2 501) e (7 + 3 * (k : Int) + 2) = bb_R g e (7 + 3 * (k : Int) + 2) := by rw [g2]
        have z2 : ab_rsz (D2 501) e (k : Int) = ab_pw (bb_R g e (7 + 3 * (k : Int) + 1)) := by rw [g2]; rfl
        have hI3 : ab_IR (D3 501) e := by rw [g3]; exact hI
        have n3 : bb_R (D3 501) e 3 = bb_R g e 3 := by rw [g3]
        have w3 : bb_R (D3 501) e 4 = bb_R g e 4 := by rw [g3]
        have f3 : bb_R (D3 501) e (7 + 3 * (k : Int) + 0) = bb_R g e (7 + 3 * (k : Int) + 0) := by rw [g3]
        have t3 : bb_R (D3 501) e (7 + 3 * (k : Int) + 2) = bb_R g e (7 + 3 * (k : Int) + 2) := by rw [g3]
        have z3 : ab_rsz (D3 501) e (k : Int) = ab_pw (bb_R g e (7 + 3 * (k : Int) + 1)) := by rw [g3]; rfl
        have hI4 : ab_IR (D4 501) e := by rw [g4]; exact hI
        have n4 : bb_R (D4 501) e 3 = bb_R g e 3 := by rw [g4]
        have w4 : bb_R (D4 501) e 4 = bb_R g e 4 := by rw [g4]
        have f4 : bb_R (D4 501) e (7 + 3 * (k : Int) + 0) = bb_R g e (7 + 3 * (k : Int) + 0) := by rw [g4]
        have t4 : bb_R (D4 501) e (7 + 3 * (k : Int) + 2) = bb_R g e (7 + 3 * (k : Int) + 2) := by rw [g4]
        have z4 : ab_rsz (D4 501) e (k : Int) = ab_pw (bb_R g e (7 + 3 * (k : Int) + 1)) := by rw [g4]; rfl
        have hI6 : ab_IR (D6 501) e := by rw [g6]; exact hI
        have n6 : bb_R (D6 501) e 3 = bb_R g e 3 := by rw [g6]
        have w6 : bb_R (D6 501) e 4 = bb_R g e 4 := by rw [g6]
        have f6 : bb_R (D6 501) e (7 + 3 * (k : Int) + 0) = bb_R g e (7 + 3 * (k : Int) + 0) := by rw [g6]
        have t6 : bb_R (D6 501) e (7 + 3 * (k : Int) + 2) = bb_R g e (7 + 3 * (k : Int) + 2) := by rw [g6]
        have z6 : ab_rsz (D6 501) e (k : Int) = ab_pw (bb_R g e (7 + 3 * (k : Int) + 1)) := by rw [g6]; rfl
        simp (discharger := first | assumption | exact True.intro | exact not_false | (refine ab_gK ?_; with_unfolding_all rfl) | exact ab_rgI (by omega) (by omega) | omega) only [e1, e2, e3, e4, ab_y110, ab_y111, e6, n0, w0, f0, t0, z0, ab_y112 ee0 ee6 hI0, n1, w1, f1, t1, z1, ab_y112 ee0 ee6 hI1, n2, w2, f2, t2, z2, ab_y112 ee0 ee6 hI2, n3, w3, f3, t3, z3, ab_y112 ee0 ee6 hI3, n4, w4, f4, t4, z4, ab_y112 ee0 ee6 hI4, n6, w6, f6, t6, z6, ab_y112 ee0 ee6 hI6, ab_e19_0, ab_e19_1, ab_e19_2, ab_e19_3, ab_e19_6, ab_e19_9, ab_e19_10, ab_e19_13, ab_e19_14, ab_e19_17, ab_e19_20, ab_e19_21, ab_e19_22, ab_e19_23, ab_e19_24, ab_e19_27, ab_e19_28, ab_e19_29, ab_e19_32, ab_e19_33, ab_e19_35, ab_e19_38, ab_e19_39, ab_e19_41, ab_e19_42, ab_e19_43, ab_e19_44, ab_e19_47, ab_e19_50, ab_e19_51, ab_e19_53, ab_e19_56, ab_e19_57, ab_e19_58, ab_e19_59, ab_e19_60, ab_e19_61, ab_e19_64, ab_e19_67, ab_e19_68, ab_e19_70, ab_e19_73, ab_e19_74, ab_e19_75, ab_e19_76, ab_e19_77, ab_e19_78, ab_e19_81, ab_e19_82, ab_e19_83, ab_e19_84, ab_e19_87, ab_e19_88, ab_e19_89, ab_e19_90, ab_e19_93, ab_e19_94, ab_e19_95, ab_e19_96, ab_e19_97, ab_e19_100, ab_e19_101, ab_e19_104, ab_e19_105, ab_e19_107, ab_e19_110, ab_e19_111, ab_e19_112, ab_e19_113, ab_e19_114, ab_e19_117, ab_e19_120, ab_e19_121, ab_e19_123, ab_e19_126, ab_e19_129, ab_e19_132, ab_e19_133, ab_e19_136, ab_br_t, ab_br_f, ab_re_v (ab_zz _), ab_re_n (ab_zz _)]
      · skip
        have q5 : bb_l5 g e k (bb_l4 g e k (bb_lz g e k)) = (bb_l4 g e k (bb_lz g e k)) := if_neg ht
        rw [← q5] at ct4
        have q6 : bb_l6 g e k (bb_l5 g e k (bb_l4 g e k (bb_lz g e k))) = (bb_l5 g e k (bb_l4 g e k (bb_lz g e k))) := if_neg hs4
        have le5 := bb_l5_le g e k (bb_l4 g e k (bb_lz g e k))
        rw [← q6] at ct4
        obtain ⟨D9, i1, i3, i4⟩ := bb_l19 (K := K) hw ee0 ee6 hI (k + 1) (D4) L z (by omega) ct4 g4
        refine ⟨D9, ?_, i3, bb_MF_trans (lf14) i4⟩
        refine ab_e19_40.trans ?_
        rw [← i1, kc]
        have hI0 : ab_IR (D0 501) e := by rw [g0]; exact hI
        have n0 : bb_R (D0 501) e 3 = bb_R g e 3 := by rw [g0]
        have w0 : bb_R (D0 501) e 4 = bb_R g e 4 := by rw [g0]
        have f0 : bb_R (D0 501) e (7 + 3 * (k : Int) + 0) = bb_R g e (7 + 3 * (k : Int) + 0) := by rw [g0]
        have t0 : bb_R (D0 501) e (7 + 3 * (k : Int) + 2) = bb_R g e (7 + 3 * (k : Int) + 2) := by rw [g0]
        have z0 : ab_rsz (D0 501) e (k : Int) = ab_pw (bb_R g e (7 + 3 * (k : Int) + 1)) := by rw [g0]; rfl
        have hI1 : ab_IR (D1 501) e := by rw [g1]; exact hI
        have n1 : bb_R (D1 501) e 3 = bb_R g e 3 := by rw [g1]
        have w1 : bb_R (D1 501) e 4 = bb_R g e 4 := by rw [g1]
        have f1 : bb_R (D1 501) e (7 + 3 * (k : Int) + 0) = bb_R g e (7 + 3 * (k : Int) + 0) := by rw [g1]
        have t1 : bb_R (D1 501) e (7 + 3 * (k : Int) + 2) = bb_R g e (7 + 3 * (k : Int) + 2) := by rw [g1]
        have z1 : ab_rsz (D1 501) e (k : Int) = ab_pw (bb_R g e (7 + 3 * (k : Int) + 1)) := by rw [g1]; rfl
        have hI2 : ab_IR (D2 501) e := by rw [g2]; exact hI
        have n2 : bb_R (D2 501) e 3 = bb_R g e 3 := by rw [g2]
        have w2 : bb_R (D2 501) e 4 = bb_R g e 4 := by rw [g2]
        have f2 : bb_R (D2 501) e (7 + 3 * (k : Int) + 0) = bb_R g e (7 + 3 * (k : Int) + 0) := by rw [g2]
        have t2 : bb_R (D2 501) e (7 + 3 * (k : Int) + 2) = bb_R g e (7 + 3 * (k : Int) + 2) := by rw [g2]
        have z2 : ab_rsz (D2 501) e (k : Int) = ab_pw (bb_R g e (7 + 3 * (k : Int) + 1)) := by rw [g2]; rfl
        have hI3 : ab_IR (D3 501) e := by rw [g3]; exact hI
        have n3 : bb_R (D3 501) e 3 = bb_R g e 3 := by rw [g3]
        have w3 : bb_R (D3 501) e 4 = bb_R g e 4 := by rw [g3]
        have f3 : bb_R (D3 501) e (7 + 3 * (k : Int) + 0) = bb_R g e (7 + 3 * (k : Int) + 0) := by rw [g3]
        have t3 : bb_R (D3 501) e (7 + 3 * (k : Int) + 2) = bb_R g e (7 + 3 * (k : Int) + 2) := by rw [g3]
        have z3 : ab_rsz (D3 501) e (k : Int) = ab_pw (bb_R g e (7 + 3 * (k : Int) + 1)) := by rw [g3]; rfl
        have hI4 : ab_IR (D4 501) e := by rw [g4]; exact hI
        have n4 : bb_R (D4 501) e 3 = bb_R g e 3 := by rw [g4]
        have w4 : bb_R (D4 501) e 4 = bb_R g e 4 := by rw [g4]
        have f4 : bb_R (D4 501) e (7 + 3 * (k : Int) + 0) = bb_R g e (7 + 3 * (k : Int) + 0) := by rw [g4]
        have t4 : bb_R (D4 501) e (7 + 3 * (k : Int) + 2) = bb_R g e (7 + 3 * (k : Int) + 2) := by rw [g4]
        have z4 : ab_rsz (D4 501) e (k : Int) = ab_pw (bb_R g e (7 + 3 * (k : Int) + 1)) := by rw [g4]; rfl
        simp (discharger := first | assumption | exact True.intro | exact not_false | (refine ab_gK ?_; with_unfolding_all rfl) | exact ab_rgI (by omega) (by omega) | omega) only [e1, e2, e3, e4, ab_y110, ab_y111, n0, w0, f0, t0, z0, ab_y112 ee0 ee6 hI0, n1, w1, f1, t1, z1, ab_y112 ee0 ee6 hI1, n2, w2, f2, t2, z2, ab_y112 ee0 ee6 hI2, n3, w3, f3, t3, z3, ab_y112 ee0 ee6 hI3, n4, w4, f4, t4, z4, ab_y112 ee0 ee6 hI4, ab_e19_0, ab_e19_1, ab_e19_2, ab_e19_3, ab_e19_6, ab_e19_9, ab_e19_10, ab_e19_13, ab_e19_14, ab_e19_17, ab_e19_20, ab_e19_21, ab_e19_22, ab_e19_23, ab_e19_24, ab_e19_27, ab_e19_28, ab_e19_29, ab_e19_32, ab_e19_33, ab_e19_35, ab_e19_38, ab_e19_39, ab_e19_41, ab_e19_42, ab_e19_43, ab_e19_44, ab_e19_47, ab_e19_50, ab_e19_51, ab_e19_53, ab_e19_56, ab_e19_57, ab_e19_58, ab_e19_59, ab_e19_60, ab_e19_61, ab_e19_64, ab_e19_67, ab_e19_68, ab_e19_70, ab_e19_73, ab_e19_74, ab_e19_75, ab_e19_76, ab_e19_77, ab_e19_78, ab_e19_81, ab_e19_82, ab_e19_83, ab_e19_84, ab_e19_87, ab_e19_88, ab_e19_89, ab_e19_90, ab_e19_93, ab_e19_94, ab_e19_95, ab_e19_96, ab_e19_97, ab_e19_100, ab_e19_101, ab_e19_104, ab_e19_105, ab_e19_107, ab_e19_110, ab_e19_111, ab_e19_112, ab_e19_113, ab_e19_114, ab_e19_117, ab_e19_120, ab_e19_121, ab_e19_123, ab_e19_126, ab_e19_129, ab_e19_132, ab_e19_133, ab_e19_136, ab_br_t, ab_br_f, ab_re_v (ab_zz _), ab_re_n (ab_zz _)]
  · have hk : bb_R g e 3 = (k : Int) := by omega
    have hk2 : (bb_R g e 3).toNat = k := by omega
    have n0 : bb_R (D0 501) e 3 = (k : Int) := by rw [g0]; exact hk
    refine ⟨D0, ?_, by rw [hk2]; exact ct0, bb_MF_refl D0⟩
    refine ab_e19_40.trans ?_
    simp (discharger := first | assumption | exact True.intro | exact not_false | (refine ab_gK ?_; with_unfolding_all rfl) | exact ab_rgI (by omega) (by omega) | omega) only [ab_y110, n0, ab_e19_0, ab_e19_1, ab_e19_2, ab_e19_3, ab_e19_6, ab_e19_9, ab_e19_10, ab_e19_13, ab_e19_14, ab_e19_17, ab_e19_20, ab_e19_21, ab_e19_22, ab_e19_23, ab_e19_24, ab_e19_27, ab_e19_28, ab_e19_29, ab_e19_32, ab_e19_33, ab_e19_35, ab_e19_38, ab_e19_39, ab_e19_41, ab_e19_42, ab_e19_43, ab_e19_44, ab_e19_47, ab_e19_50, ab_e19_51, ab_e19_53, ab_e19_56, ab_e19_57, ab_e19_58, ab_e19_59, ab_e19_60, ab_e19_61, ab_e19_64, ab_e19_67, ab_e19_68, ab_e19_70, ab_e19_73, ab_e19_74, ab_e19_75, ab_e19_76, ab_e19_77, ab_e19_78, ab_e19_81, ab_e19_82, ab_e19_83, ab_e19_84, ab_e19_87, ab_e19_88, ab_e19_89, ab_e19_90, ab_e19_93, ab_e19_94, ab_e19_95, ab_e19_96, ab_e19_97, ab_e19_100, ab_e19_101, ab_e19_104, ab_e19_105, ab_e19_107, ab_e19_110, ab_e19_111, ab_e19_112, ab_e19_113, ab_e19_114, ab_e19_117, ab_e19_120, ab_e19_121, ab_e19_123, ab_e19_126, ab_e19_129, ab_e19_132, ab_e19_133, ab_e19_136, ab_br_t, ab_br_f, ab_re_v (ab_zz _), ab_re_n (ab_zz _)]
termination_by (bb_R g e 3 - k).toNat
decreasing_by all_goals omega

