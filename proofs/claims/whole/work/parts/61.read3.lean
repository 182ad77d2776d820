/-! ===== the whole text ===== -/
theorem bb_pr_rg (c : Int → Int) (n p : Int) (pn : p ≤ n) : ((bb_pr c n p).1 = 0 ∨ (bb_pr c n p).1 = 1) ∧ p ≤ (bb_pr c n p).2 ∧ (bb_pr c n p).2 ≤ n ∧ ((bb_pr c n p).1 = 1 → p + 2 ≤ (bb_pr c n p).2 ∧ p < n) := by
  have a := bb_nP_rg c n (p + 1 + 1 + 1)
  have b := bb_nP_rg c n (p + 1)
  by_cases h : p < n
  · unfold bb_pr bb_prg bb_prl bb_pre bb_prw bb_prs
    rw [if_neg (fun x => x h)]
    repeat' split
    all_goals (dsimp only; omega)
  · rw [show bb_pr c n p = (0, p) from if_pos h]
    dsimp only
    omega
theorem bb_y240 {K : ab_Kt} {D : Nat → Int → Int} {L : Nat → Int → Int64} {z : ab_Z} {c : Int → Int} {n : Int} (hX : bb_X D c n) {q p l k t : Int} {N : Int → Int} (p0 : 0 ≤ p) (pn : p ≤ n) : ∃ k9 t9 N9, ab_cal K 240 [.ref 494] (ab_mk (bb_T D (q) (p) (l) (k) (t) N) L z) = some (.inl (some (.int (ab_I (bb_pr c n p).1))), ab_mk (bb_T D q (bb_pr c n p).2 (if p < n then c p else 32) k9 t9 N9) L z) ∧ ((bb_pr c n p).1 = 1 → bb_VN c n p N9 t9) := by
  by_cases pn9 : p < n
  · rw [if_pos pn9]
    by_cases h103 : c p = 103
    · rw [show bb_pr c n p = bb_prg c n p by unfold bb_pr; rw [if_neg (fun x => x pn9), if_pos (by omega)]]
      exact bb_y240_103 hX p0 pn9 h103
    by_cases h115 : c p = 115
    · rw [show bb_pr c n p = bb_prs c n p by unfold bb_pr; rw [if_neg (fun x => x pn9), if_neg (by omega), if_neg (by omega), if_neg (by omega), if_neg (by omega), if_pos (by omega)]]
      exact bb_y240_115 hX p0 pn9 h115
    by_cases h117 : c p = 117
    · rw [show bb_pr c n p = bb_prs c n p by unfold bb_pr; rw [if_neg (fun x => x pn9), if_neg (by omega), if_neg (by omega), if_neg (by omega), if_neg (by omega), if_pos (by omega)]]
      exact bb_y240_117 hX p0 pn9 h117
    by_cases h116 : c p = 116
    · rw [show bb_pr c n p = bb_prs c n p by unfold bb_pr; rw [if_neg (fun x => x pn9), if_neg (by omega), if_neg (by omega), if_neg (by omega), if_neg (by omega), if_pos (by omega)]]
      exact bb_y240_116 hX p0 pn9 h116
    by_cases h100 : c p = 100
    · rw [show bb_pr c n p = bb_prs c n p by unfold bb_pr; rw [if_neg (fun x => x pn9), if_neg (by omega), if_neg (by omega), if_neg (by omega), if_neg (by omega), if_pos (by omega)]]
      exact bb_y240_100 hX p0 pn9 h100
    by_cases h108 : c p = 108
    · rw [show bb_pr c n p = bb_prl c n p by unfold bb_pr; rw [if_neg (fun x => x pn9), if_neg (by omega), if_pos (by omega)]]
      exact bb_y240_108 hX p0 pn9 h108
    by_cases h112 : c p = 112
    · rw [show bb_pr c n p = bb_prl c n p by unfold bb_pr; rw [if_neg (fun x => x pn9), if_neg (by omega), if_pos (by omega)]]
      exact bb_y240_112 hX p0 pn9 h112
    by_cases h101 : c p = 101
    · rw [show bb_pr c n p = bb_pre c n p by unfold bb_pr; rw [if_neg (fun x => x pn9), if_neg (by omega), if_neg (by omega), if_pos (by omega)]]
      exact bb_y240_101 hX p0 pn9 h101
    by_cases h119 : c p = 119
    · rw [show bb_pr c n p = bb_prw c n p by unfold bb_pr; rw [if_neg (fun x => x pn9), if_neg (by omega), if_neg (by omega), if_neg (by omega), if_pos (by omega)]]
      exact bb_y240_119 hX p0 pn9 h119
    obtain ⟨⟨n0, n60⟩, x1, x2⟩ := id hX
    have hcj : ∀ j, 0 ≤ j → j < n → D 495 j = c j := fun j a b => (x2 j a b).1
    have hc1 : ∀ j, 0 ≤ j → j < n → ab_rg (c j) := fun j a b => ab_rgI (by have := (x2 j a b).2.1; omega) (by have := (x2 j a b).2.2; omega)
    have hcp := hc1 p p0 pn9
    have hcq := (x2 p p0 pn9).2
    have bl : (if bb_len 5 = 0 then (1 : Int) else 0) = 1 := if_pos (by decide)
    have e : bb_pr c n p = (0, p) := by
      unfold bb_pr
      rw [if_neg (fun x => x pn9), if_neg (by omega), if_neg (by omega), if_neg (by omega), if_neg (by omega), if_neg (by omega)]
    rw [e]
    refine ⟨0, t, N, ?_, fun x => absurd x (by show ¬ (0 : Int) = 1; decide)⟩
    simp (discharger := first | assumption | exact True.intro | exact not_false | (refine ab_gK ?_; with_unfolding_all rfl) | exact ab_rgI (by omega) (by omega) | omega) only [ab_a240, x1, hcj, bb_y270_d hcp h103 h115 h117 h116 h100 h108 h112 h101 h119, bb_y271 (i := 5), bl, bb_T1, bb_T2, bb_T3, bb_T4, bb_T6, bb_T7, bb_T495, bb_T496, bb_T17, bb_U2, bb_U3, bb_U4, bb_U6, bb_U7, bb_U496, ab_e240_0, ab_e240_1, ab_e240_2, ab_e240_5, ab_e240_6, ab_e240_7, ab_e240_10, ab_e240_11, ab_e240_14, ab_e240_17, ab_e240_18, ab_e240_21, ab_e240_22, ab_e240_25, ab_e240_26, ab_e240_29, ab_e240_31, ab_e240_34, ab_e240_35, ab_e240_38, ab_e240_41, ab_e240_42, bb_e240_43, ab_e240_46, ab_e240_49, ab_e240_50, ab_e240_51, ab_e240_52, ab_e240_53, ab_e240_56, ab_e240_57, ab_e240_58, ab_e240_61, ab_e240_62, ab_e240_63, ab_e240_64, bb_e240_65, ab_e240_68, ab_e240_71, ab_e240_72, ab_e240_73, bb_e240_74, ab_e240_77, ab_e240_80, ab_e240_83, ab_e240_84, ab_e240_85, ab_e240_88, ab_e240_91, ab_e240_92, ab_br_t, ab_br_f, ab_re_v (ab_zz _), ab_re_n (ab_zz _)]
  · rw [if_neg pn9, show bb_pr c n p = (0, p) from if_pos pn9]
    obtain ⟨⟨n0, n60⟩, x1, x2⟩ := id hX
    have hcj : ∀ j, 0 ≤ j → j < n → D 495 j = c j := fun j a b => (x2 j a b).1
    have hc1 : ∀ j, 0 ≤ j → j < n → ab_rg (c j) := fun j a b => ab_rgI (by have := (x2 j a b).2.1; omega) (by have := (x2 j a b).2.2; omega)
    have bl : (if bb_len 5 = 0 then (1 : Int) else 0) = 1 := if_pos (by decide)
    have hcp : ab_rg 32 := ab_rgI (by decide) (by decide)
    refine ⟨0, t, N, ?_, fun x => absurd x (by show ¬ (0 : Int) = 1; decide)⟩
    simp (discharger := first | assumption | exact True.intro | exact not_false | (refine ab_gK ?_; with_unfolding_all rfl) | exact ab_rgI (by omega) (by omega) | omega) only [ab_a240, x1, hcj, bb_y270_d hcp (by decide) (by decide) (by decide) (by decide) (by decide) (by decide) (by decide) (by decide) (by decide), bb_y271 (i := 5), bl, bb_T1, bb_T2, bb_T3, bb_T4, bb_T6, bb_T7, bb_T495, bb_T496, bb_T17, bb_U2, bb_U3, bb_U4, bb_U6, bb_U7, bb_U496, ab_e240_0, ab_e240_1, ab_e240_2, ab_e240_5, ab_e240_6, ab_e240_7, ab_e240_10, ab_e240_11, ab_e240_14, ab_e240_17, ab_e240_18, ab_e240_21, ab_e240_22, ab_e240_25, ab_e240_26, ab_e240_29, ab_e240_31, ab_e240_34, ab_e240_35, ab_e240_38, ab_e240_41, ab_e240_42, bb_e240_43, ab_e240_46, ab_e240_49, ab_e240_50, ab_e240_51, ab_e240_52, ab_e240_53, ab_e240_56, ab_e240_57, ab_e240_58, ab_e240_61, ab_e240_62, ab_e240_63, ab_e240_64, bb_e240_65, ab_e240_68, ab_e240_71, ab_e240_72, ab_e240_73, bb_e240_74, ab_e240_77, ab_e240_80, ab_e240_83, ab_e240_84, ab_e240_85, ab_e240_88, ab_e240_91, ab_e240_92, ab_br_t, ab_br_f, ab_re_v (ab_zz _), ab_re_n (ab_zz _)]

theorem bb_y239 {K : ab_Kt} {D : Nat → Int → Int} {L : Nat → Int → Int64} {z : ab_Z} {q p l k t : Int} {N : Int → Int} : ab_cal K 239 [.ref 494] (ab_mk (bb_T D (q) (p) (l) (k) (t) N) L z) = some (.inl none, ab_mk (bb_T D q 0 l k t N) L z) := by
  simp (discharger := first | assumption | exact True.intro | exact not_false | (refine ab_gK ?_; with_unfolding_all rfl) | exact ab_rgI (by omega) (by omega) | omega) only [ab_a239, bb_T1, bb_T2, bb_T3, bb_T4, bb_T6, bb_T7, bb_T495, bb_T496, bb_T17, bb_U2, bb_U3, bb_U4, bb_U6, bb_U7, bb_U496, ab_e239_0, ab_e239_1, ab_e239_2, ab_e239_5, ab_br_t, ab_br_f, ab_re_v (ab_zz _), ab_re_n (ab_zz _)]

theorem bb_y191 {K : ab_Kt} {D : Nat → Int → Int} {L : Nat → Int → Int64} {z : ab_Z} : ab_cal K 191 [.ref 494] (ab_mk D L z) = some (.inl none, ab_mk (ab_u D 494 1 0) L z) := by
  simp (discharger := first | assumption | exact True.intro | exact not_false | (refine ab_gK ?_; with_unfolding_all rfl) | exact ab_rgI (by omega) (by omega) | omega) only [ab_a191, ab_e191_0, ab_e191_1, ab_e191_2, ab_e191_5, ab_br_t, ab_br_f, ab_re_v (ab_zz _), ab_re_n (ab_zz _)]

/-- where the command behind the one at p begins -/
def bb_nx (c : Int → Int) (n p : Int) : Int := if ((bb_pr c n p).2 < n ∧ c ((bb_pr c n p).2) = 59) then (bb_pr c n p).2 + 1 else (bb_pr c n p).2
theorem bb_y242 {K : ab_Kt} {D : Nat → Int → Int} {L : Nat → Int → Int64} {z : ab_Z} {c : Int → Int} {n : Int} (hX : bb_X D c n) {q p l k t : Int} {N : Int → Int} (p0 : 0 ≤ p) (pn : p ≤ n) : ∃ k9 t9 N9, ab_cal K 242 [.ref 494] (ab_mk (bb_T D (q) (p) (l) (k) (t) N) L z) = some (.inl none, ab_mk (bb_T D q (bb_nx c n p) (if p < n then c p else 32) k9 t9 N9) L z) ∧ ((bb_pr c n p).1 = 1 → bb_VN c n p N9 t9) := by
  obtain ⟨k9, t9, N9, h1, h2⟩ := bb_y240 (K := K) (D := D) (L := L) (z := z) hX (q := q) (p := p) (l := l) (k := k) (t := t) (N := N) p0 pn
  obtain ⟨r1, r2, r3, -⟩ := bb_pr_rg c n p pn
  have r0 : 0 ≤ (bb_pr c n p).2 := by omega
  have hr : ab_rg 59 := ab_rgI (by decide) (by decide)
  refine ⟨k9, t9, N9, ?_, h2⟩
  unfold bb_nx
  by_cases h : ((bb_pr c n p).2 < n ∧ c ((bb_pr c n p).2) = 59)
  · rw [if_pos h]
    simp (discharger := first | assumption | exact True.intro | exact not_false | (refine ab_gK ?_; with_unfolding_all rfl) | exact ab_rgI (by omega) (by omega) | omega) only [ab_a242, h1, bb_y241 hX r0 r3 hr h, ab_e242_0, ab_e242_1, ab_e242_4, ab_e242_5, ab_e242_6, ab_e242_8, ab_e242_11, ab_e242_12, ab_br_t, ab_br_f, ab_re_v (ab_zz _), ab_re_n (ab_zz _)]
  · rw [if_neg h]
    simp (discharger := first | assumption | exact True.intro | exact not_false | (refine ab_gK ?_; with_unfolding_all rfl) | exact ab_rgI (by omega) (by omega) | omega) only [ab_a242, h1, bb_y241t hX r0 r3 hr h, ab_e242_0, ab_e242_1, ab_e242_4, ab_e242_5, ab_e242_6, ab_e242_8, ab_e242_11, ab_e242_12, ab_br_t, ab_br_f, ab_re_v (ab_zz _), ab_re_n (ab_zz _)]

/-- the fault of the text from p on, where q commands lie before (-1: none), and how many commands were read -/
def bb_fl (c : Int → Int) (n : Int) : Nat → Int → Int → Int × Int
  | 0, p, q => (p, q)
  | f + 1, p, q => if (bb_pr c n p).1 = 0 then ((bb_pr c n p).2, q) else if n ≤ (bb_pr c n p).2 then (-1, q + 1) else if c (bb_pr c n p).2 = 59 then bb_fl c n f ((bb_pr c n p).2 + 1) (q + 1) else ((bb_pr c n p).2, q + 1)
theorem bb_fl1 (c : Int → Int) (n p q : Int) (f : Nat) : bb_fl c n (f + 1) p q = if (bb_pr c n p).1 = 0 then ((bb_pr c n p).2, q) else if n ≤ (bb_pr c n p).2 then (-1, q + 1) else if c (bb_pr c n p).2 = 59 then bb_fl c n f ((bb_pr c n p).2 + 1) (q + 1) else ((bb_pr c n p).2, q + 1) := rfl
theorem bb_l190 {K : ab_Kt} {D : Nat → Int → Int} {L : Nat → Int → Int64} {z : ab_Z} {c : Int → Int} {n : Int} (hX : bb_X D c n) (f : Nat) (q p l k t : Int) (N : Int → Int) (p0 : 0 ≤ p) (pn : p ≤ n) (q0 : 0 ≤ q) (qp : q ≤ p) (hf : 60 < p + f) : ∃ p9 l9 k9 t9 N9, ab_ev K 190 11 [some (.ref 494), some (.int (ab_I q))] [] (ab_mk (bb_T D (q) (p) (l) (k) (t) N) L z) = some (.inl (some (.int (ab_I (bb_fl c n f p q).1))), ab_mk (bb_T D (bb_fl c n f p q).2 p9 l9 k9 t9 N9) L z) := by
  obtain ⟨⟨n0, n60⟩, x1, x2⟩ := id hX
  have hcj : ∀ j, 0 ≤ j → j < n → D 495 j = c j := fun j a b => (x2 j a b).1
  have hc1 : ∀ j, 0 ≤ j → j < n → ab_rg (c j) := fun j a b => ab_rgI (by have := (x2 j a b).2.1; omega) (by have := (x2 j a b).2.2; omega)
  cases f with
  | zero => omega
  | succ f =>
    have hq : q ≤ 60 := by omega
    obtain ⟨r1, r2, r3, r4⟩ := bb_pr_rg c n p pn
    have r0 : 0 ≤ (bb_pr c n p).2 := by omega
    have hr : ab_rg 59 := ab_rgI (by decide) (by decide)
    obtain ⟨k9, t9, N9, h1, h2⟩ := bb_y240 (K := K) (D := D) (L := L) (z := z) hX (q := q) (p := p) (l := l) (k := k) (t := t) (N := N) p0 pn
    rw [bb_fl1, ab_e190_11]
    by_cases h3 : (bb_pr c n p).1 = 0
    · rw [if_pos h3]
      rw [h3] at h1
      refine ⟨(bb_pr c n p).2, (if p < n then c p else 32), k9, t9, N9, ?_⟩
      simp (discharger := first | assumption | exact True.intro | exact not_false | (refine ab_gK ?_; with_unfolding_all rfl) | exact ab_rgI (by omega) (by omega) | omega) only [h1, bb_T1, bb_T2, bb_T3, bb_T4, bb_T6, bb_T7, bb_T495, bb_T496, bb_T17, bb_U2, bb_U3, bb_U4, bb_U6, bb_U7, bb_U496, ab_e190_0, ab_e190_1, ab_e190_4, ab_e190_5, ab_e190_6, ab_e190_9, ab_e190_10, ab_e190_12, ab_e190_14, ab_e190_17, ab_e190_18, ab_e190_21, ab_e190_24, ab_e190_25, ab_e190_28, ab_e190_29, ab_e190_30, ab_e190_31, ab_e190_34, ab_e190_35, ab_e190_36, ab_e190_39, ab_e190_40, ab_e190_43, ab_e190_44, ab_e190_47, ab_e190_50, ab_e190_51, ab_e190_52, ab_e190_53, ab_e190_55, ab_e190_58, ab_e190_61, ab_e190_62, ab_e190_65, ab_e190_66, ab_e190_69, ab_e190_72, ab_e190_73, ab_e190_76, ab_br_t, ab_br_f, ab_re_v (ab_zz _), ab_re_n (ab_zz _)]
    have h4 : (bb_pr c n p).1 = 1 := by omega
    rw [if_neg h3]
    rw [h4] at h1
    by_cases h5 : n ≤ (bb_pr c n p).2
    · rw [if_pos h5]
      refine ⟨(bb_pr c n p).2, (if p < n then c p else 32), k9, t9, N9, ?_⟩
      simp (discharger := first | assumption | exact True.intro | exact not_false | (refine ab_gK ?_; with_unfolding_all rfl) | exact ab_rgI (by omega) (by omega) | omega) only [h1, x1, bb_T1, bb_T2, bb_T3, bb_T4, bb_T6, bb_T7, bb_T495, bb_T496, bb_T17, bb_U2, bb_U3, bb_U4, bb_U6, bb_U7, bb_U496, ab_e190_0, ab_e190_1, ab_e190_4, ab_e190_5, ab_e190_6, ab_e190_9, ab_e190_10, ab_e190_12, ab_e190_14, ab_e190_17, ab_e190_18, ab_e190_21, ab_e190_24, ab_e190_25, ab_e190_28, ab_e190_29, ab_e190_30, ab_e190_31, ab_e190_34, ab_e190_35, ab_e190_36, ab_e190_39, ab_e190_40, ab_e190_43, ab_e190_44, ab_e190_47, ab_e190_50, ab_e190_51, ab_e190_52, ab_e190_53, ab_e190_55, ab_e190_58, ab_e190_61, ab_e190_62, ab_e190_65, ab_e190_66, ab_e190_69, ab_e190_72, ab_e190_73, ab_e190_76, ab_br_t, ab_br_f, ab_re_v (ab_zz _), ab_re_n (ab_zz _)]
    rw [if_neg h5]
    have h6 : (bb_pr c n p).2 < n := by omega
    by_cases h7 : c (bb_pr c n p).2 = 59
    · rw [if_pos h7]
      obtain ⟨p9, l9, k8, t8, N8, ih⟩ := bb_l190 (K := K) (D := D) (L := L) (z := z) hX f (q + 1) ((bb_pr c n p).2 + 1) (if p < n then c p else 32) k9 t9 N9 (by omega) (by omega) (by omega) (by omega) (by omega)
      refine ⟨p9, l9, k8, t8, N8, ?_⟩
      rw [← ih]
      simp (discharger := first | assumption | exact True.intro | exact not_false | (refine ab_gK ?_; with_unfolding_all rfl) | exact ab_rgI (by omega) (by omega) | omega) only [h1, x1, bb_y241 hX r0 r3 hr ⟨h6, h7⟩, bb_T1, bb_T2, bb_T3, bb_T4, bb_T6, bb_T7, bb_T495, bb_T496, bb_T17, bb_U2, bb_U3, bb_U4, bb_U6, bb_U7, bb_U496, ab_e190_0, ab_e190_1, ab_e190_4, ab_e190_5, ab_e190_6, ab_e190_9, ab_e190_10, ab_e190_12, ab_e190_14, ab_e190_17, ab_e190_18, ab_e190_21, ab_e190_24, ab_e190_25, ab_e190_28, ab_e190_29, ab_e190_30, ab_e190_31, ab_e190_34, ab_e190_35, ab_e190_36, ab_e190_39, ab_e190_40, ab_e190_43, ab_e190_44, ab_e190_47, ab_e190_50, ab_e190_51, ab_e190_52, ab_e190_53, ab_e190_55, ab_e190_58, ab_e190_61, ab_e190_62, ab_e190_65, ab_e190_66, ab_e190_69, ab_e190_72, ab_e190_73, ab_e190_76, ab_br_t, ab_br_f, ab_re_v (ab_zz _), ab_re_n (ab_zz _)]
    · rw [if_neg h7]
      refine ⟨(bb_pr c n p).2, (if p < n then c p else 32), k9, t9, N9, ?_⟩
      simp (discharger := first | assumption | exact True.intro | exact not_false | (refine ab_gK ?_; with_unfolding_all rfl) | exact ab_rgI (by omega) (by omega) | omega) only [h1, x1, bb_y241t hX r0 r3 hr (fun x => h7 x.2), bb_T1, bb_T2, bb_T3, bb_T4, bb_T6, bb_T7, bb_T495, bb_T496, bb_T17, bb_U2, bb_U3, bb_U4, bb_U6, bb_U7, bb_U496, ab_e190_0, ab_e190_1, ab_e190_4, ab_e190_5, ab_e190_6, ab_e190_9, ab_e190_10, ab_e190_12, ab_e190_14, ab_e190_17, ab_e190_18, ab_e190_21, ab_e190_24, ab_e190_25, ab_e190_28, ab_e190_29, ab_e190_30, ab_e190_31, ab_e190_34, ab_e190_35, ab_e190_36, ab_e190_39, ab_e190_40, ab_e190_43, ab_e190_44, ab_e190_47, ab_e190_50, ab_e190_51, ab_e190_52, ab_e190_53, ab_e190_55, ab_e190_58, ab_e190_61, ab_e190_62, ab_e190_65, ab_e190_66, ab_e190_69, ab_e190_72, ab_e190_73, ab_e190_76, ab_br_t, ab_br_f, ab_re_v (ab_zz _), ab_re_n (ab_zz _)]

theorem bb_y190 {K : ab_Kt} {D : Nat → Int → Int} {L : Nat → Int → Int64} {z : ab_Z} {c : Int → Int} {n : Int} (hX : bb_X D c n) (q p l k t : Int) (N : Int → Int) : ∃ p9 l9 k9 t9 N9, ab_cal K 190 [.ref 494] (ab_mk (bb_T D (q) (p) (l) (k) (t) N) L z) = some (.inl (some (.int (ab_I (bb_fl c n 61 0 0).1))), ab_mk (bb_T D (bb_fl c n 61 0 0).2 p9 l9 k9 t9 N9) L z) := by
  obtain ⟨p9, l9, k9, t9, N9, ih⟩ := bb_l190 (K := K) (D := D) (L := L) (z := z) hX 61 0 0 l k t N (Int.le_refl _) hX.1.1 (Int.le_refl _) (Int.le_refl _) (by decide)
  refine ⟨p9, l9, k9, t9, N9, ?_⟩
  rw [← ih]
  simp (discharger := first | assumption | exact True.intro | exact not_false | (refine ab_gK ?_; with_unfolding_all rfl) | exact ab_rgI (by omega) (by omega) | omega) only [ab_a190, bb_y239, bb_T1, bb_T2, bb_T3, bb_T4, bb_T6, bb_T7, bb_T495, bb_T496, bb_T17, bb_U2, bb_U3, bb_U4, bb_U6, bb_U7, bb_U496, ab_e190_0, ab_e190_1, ab_e190_4, ab_e190_5, ab_e190_6, ab_e190_9, ab_e190_10, ab_e190_12, ab_e190_14, ab_e190_17, ab_e190_18, ab_e190_21, ab_e190_24, ab_e190_25, ab_e190_28, ab_e190_29, ab_e190_30, ab_e190_31, ab_e190_34, ab_e190_35, ab_e190_36, ab_e190_39, ab_e190_40, ab_e190_43, ab_e190_44, ab_e190_47, ab_e190_50, ab_e190_51, ab_e190_52, ab_e190_53, ab_e190_55, ab_e190_58, ab_e190_61, ab_e190_62, ab_e190_65, ab_e190_66, ab_e190_69, ab_e190_72, ab_e190_73, ab_e190_76, ab_br_t, ab_br_f, ab_re_v (ab_zz _), ab_re_n (ab_zz _)]

