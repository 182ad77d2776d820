/-! ===== undo, save, restore ===== -/
theorem bb_cp_eqg {f src : Int → Int} {at0 : Int} : bb_eqg (fun k => src (at0 + k)) (bb_cp f src at0 0 322) := fun k k0 k1 => by
  unfold bb_cp
  rw [if_pos (by omega), Int.sub_zero]
theorem bb_op8 {K : ab_Kt} {D : Nat → Int → Int} {L : Nat → Int → Int64} {z : ab_Z} {n : Int} (hn : n < 512) (h : bb_INV n D L z) : bb_OP K n D L z 8 [.ref 17, .ref 508] 9 [.ref 500] := by
  have hI := h
  obtain ⟨n1, ⟨hw, w2, w3⟩, hS9, hR9, h69, hT9, hL9, -⟩ := hI
  have n9 : 0 ≤ n ∧ n < 512 := ⟨n1.1, hn⟩
  have cm := bb_cc_mono n9
  have hsp := ab_sp0
  have hk := w2.1
  have m := bb_WS_n hw
  obtain ⟨⟨q2, q3, q4, q5, q6, q7, q8, q9⟩, kp, ka, kb, kn⟩ := id hk
  have hwE : bb_WS (bb_cc n) (bb_E D 501) := by rw [bb_E_501]; exact hw
  have m5 := w2.2.2.1
  have m8 := w2.2.2.2.1
  by_cases hx : D 500 5 = 0
  · have hx2 : D 62 2 = 0 := m5.trans hx
    refine ⟨D, L, ab_zc (ab_zx z), ab_u D 500 7 1, 1, 0, ?_, ?_, by omega, ab_u_eq, fun x => absurd x (by omega), bb_INV_q hn h (fun i _ e => ab_u_row e) (fun k e => ab_u_ne (.inr e)) (fun i _ => rfl) (.inr rfl), Nat.le_succ _, Nat.le_add_right _ 6⟩
    · simp (discharger := first | assumption | exact True.intro | exact not_false | (refine ab_gK ?_; with_unfolding_all rfl) | exact ab_rgI (by omega) (by omega) | omega) only [ab_a8, ab_a95, hx2, ab_re_h (M := 8) (pc := 3) (E := "java/lang/IllegalStateException") (ph := 11) (by rfl) (ab_zzx _), ab_e8_0, ab_e8_1, ab_e8_2, ab_e8_3, ab_e8_6, ab_e8_7, ab_e8_8, ab_e8_11, ab_e8_12, ab_e8_13, ab_e8_14, ab_e8_15, ab_e95_0, ab_e95_1, ab_e95_4, ab_e95_7, ab_e95_10, ab_e95_18, ab_e95_19, ab_e95_22, ab_e95_23, ab_e95_26, ab_e95_29, ab_e95_30, ab_e95_33, ab_e95_36, ab_br_t, ab_br_f, ab_re_v (ab_zz _), ab_re_n (ab_zz _)]
    · simp (discharger := first | assumption | exact True.intro | exact not_false | (refine ab_gK ?_; with_unfolding_all rfl) | exact ab_rgI (by omega) (by omega) | omega) only [ab_a9, hx, bb_y92_1, ab_e9_0, ab_e9_1, ab_e9_2, ab_e9_5, ab_e9_8, ab_e9_9, ab_e9_12, ab_e9_13, ab_e9_16, ab_e9_19, ab_e9_20, ab_e9_21, ab_e9_22, ab_e9_23, ab_e9_26, ab_e9_27, ab_e9_28, ab_e9_31, ab_e9_32, ab_e9_35, ab_e9_38, ab_e9_39, ab_e9_42, ab_e9_43, ab_e9_44, ab_e9_47, ab_e9_48, ab_e9_51, ab_e9_52, ab_e9_55, ab_br_t, ab_br_f, ab_re_v (ab_zz _), ab_re_n (ab_zz _)]
  · have hx2 : ¬ D 62 2 = 0 := fun e => hx (m5.symm.trans e)
    have hr5 : ab_rg (D 500 5) := ab_rgI (by omega) (by omega)
    have hr62 : ab_rg (D 62 2) := ab_rgI (by omega) (by omega)
    obtain ⟨D1, L1, e1, c1, f1⟩ := bb_y179 (K := K) (z := z) hw w3 w2 (by omega)
    have d500 : D1 500 = D 500 := (f1 500 (by omega)).1
    have d501 : D1 501 = D 501 := (f1 501 (by omega)).1
    have d502 : D1 502 = D 502 := (f1 502 (by omega)).1
    have v1 : D1 62 2 = D 500 5 - 1 := c1.2.2.1
    have w500 : bb_E D1 500 5 = D 500 5 := by rw [bb_E_500 (by decide), d500]
    have v500 : ab_u (bb_E D1) 500 5 (D 500 5 - 1) 500 5 = D 500 5 - 1 := ab_u_eq
    have hrow : ∀ i, i ≠ 500 → i ≠ 501 → bb_row (ab_u (bb_E D1) 500 5 (D 500 5 - 1)) 501 (bb_cp (ab_u (bb_E D1) 500 5 (D 500 5 - 1) 501) (ab_u (bb_E D1) 500 5 (D 500 5 - 1) 502) (322 * (D 500 5 - 1)) 0 322) i = D1 i := fun i a b => by
      rw [bb_row_ne b, ab_u_row a, show bb_E D1 i = _ from ab_u_row a]
    have x500 : ∀ k, k ≠ 5 → k ≠ 7 → bb_row (ab_u (bb_E D1) 500 5 (D 500 5 - 1)) 501 (bb_cp (ab_u (bb_E D1) 500 5 (D 500 5 - 1) 501) (ab_u (bb_E D1) 500 5 (D 500 5 - 1) 502) (322 * (D 500 5 - 1)) 0 322) 500 k = D 500 k := fun k a b => by
      rw [bb_row_ne (by decide), ab_u_ne (.inr a), bb_E_500 b, d500]
    have x5 : bb_row (ab_u (bb_E D1) 500 5 (D 500 5 - 1)) 501 (bb_cp (ab_u (bb_E D1) 500 5 (D 500 5 - 1) 501) (ab_u (bb_E D1) 500 5 (D 500 5 - 1) 502) (322 * (D 500 5 - 1)) 0 322) 500 5 = D 500 5 - 1 := by
      rw [bb_row_ne (by decide), ab_u_eq]
    have e502 : ab_u (bb_E D1) 500 5 (D 500 5 - 1) 502 = D 502 := by rw [ab_u_row (by decide), show bb_E D1 502 = _ from ab_u_row (by decide), d502]
    have hg : bb_eqg (bb_Fk D (D 500 5 - 1)) (bb_cp (ab_u (bb_E D1) 500 5 (D 500 5 - 1) 501) (ab_u (bb_E D1) 500 5 (D 500 5 - 1) 502) (322 * (D 500 5 - 1)) 0 322) := by
      rw [e502]
      exact bb_cp_eqg
    have wF := w3 (D 500 5 - 1) (by omega) (by omega)
    have h57 : 0 ≤ 322 * (D 500 5 - 1) := by omega
    have h58 : 322 * (D 500 5 - 1) + 322 ≤ ab_ml 502 := by show _ ≤ ((2576 : Nat) : Int); omega
    have h59 : (0 : Int) + 322 ≤ ab_ml 501 := by show _ ≤ ((322 : Nat) : Int); omega
    have mi2 : ab_mi 502 := .inr (.inl rfl)
    have mi1 : ab_mi 501 := .inl rfl
    have hcF : bb_KS D1 L1 19 (bb_Fk D (D 500 5 - 1)) := c1.1
    refine ⟨D1, ab_u L1 508 0 (ab_I (D 500 5 - 1)).toInt64, z, bb_row (ab_u (bb_E D1) 500 5 (D 500 5 - 1)) 501 (bb_cp (ab_u (bb_E D1) 500 5 (D 500 5 - 1) 501) (ab_u (bb_E D1) 500 5 (D 500 5 - 1) 502) (322 * (D 500 5 - 1)) 0 322), 0, D 500 5 - 1, ?_, ?_, by omega, ?_, fun _ => ab_u_eq, ?_, Nat.le_refl _, Nat.le_refl _⟩
    · simp (discharger := first | assumption | exact True.intro | exact not_false | (refine ab_gK ?_; with_unfolding_all rfl) | exact ab_rgI (by omega) (by omega) | omega) only [ab_a8, ab_a95, e1, v1, ab_e8_0, ab_e8_1, ab_e8_2, ab_e8_3, ab_e8_6, ab_e8_7, ab_e8_8, ab_e8_11, ab_e8_12, ab_e8_13, ab_e8_14, ab_e8_15, ab_e95_0, ab_e95_1, ab_e95_4, ab_e95_7, ab_e95_10, ab_e95_18, ab_e95_19, ab_e95_22, ab_e95_23, ab_e95_26, ab_e95_29, ab_e95_30, ab_e95_33, ab_e95_36, ab_br_t, ab_br_f, ab_re_v (ab_zz _), ab_re_n (ab_zz _)]
    · have z501 : bb_row (ab_u (bb_E D1) 500 5 (D 500 5 - 1)) 501 (bb_cp (ab_u (bb_E D1) 500 5 (D 500 5 - 1) 501) (ab_u (bb_E D1) 500 5 (D 500 5 - 1) 502) (322 * (D 500 5 - 1)) 0 322) 500 5 = D 500 5 - 1 := x5
      have g5 : D1 500 5 = D 500 5 := by rw [d500]
      simp (discharger := first | assumption | exact True.intro | exact not_false | (refine ab_gK ?_; with_unfolding_all rfl) | exact ab_rgI (by omega) (by omega) | omega) only [ab_a9, g5, bb_y92_0, w500, v500, bb_y93 mi2 mi1 (by decide) h57 h58 (by omega) h59, z501, ab_e9_0, ab_e9_1, ab_e9_2, ab_e9_5, ab_e9_8, ab_e9_9, ab_e9_12, ab_e9_13, ab_e9_16, ab_e9_19, ab_e9_20, ab_e9_21, ab_e9_22, ab_e9_23, ab_e9_26, ab_e9_27, ab_e9_28, ab_e9_31, ab_e9_32, ab_e9_35, ab_e9_38, ab_e9_39, ab_e9_42, ab_e9_43, ab_e9_44, ab_e9_47, ab_e9_48, ab_e9_51, ab_e9_52, ab_e9_55, ab_br_t, ab_br_f, ab_re_v (ab_zz _), ab_re_n (ab_zz _)]
    · rw [bb_row_ne (by decide), ab_u_ne (.inr (by decide))]
      exact ab_u_eq
    · obtain ⟨n1, hH, hS, hR, h6, hT, hN, hM⟩ := h
      have e1' : bb_row (ab_u (bb_E D1) 500 5 (D 500 5 - 1)) 501 (bb_cp (ab_u (bb_E D1) 500 5 (D 500 5 - 1) 501) (ab_u (bb_E D1) 500 5 (D 500 5 - 1) 502) (322 * (D 500 5 - 1)) 0 322) 501 = _ := bb_row_eq
      have hFk : bb_Fk (bb_row (ab_u (bb_E D1) 500 5 (D 500 5 - 1)) 501 (bb_cp (ab_u (bb_E D1) 500 5 (D 500 5 - 1) 501) (ab_u (bb_E D1) 500 5 (D 500 5 - 1) 502) (322 * (D 500 5 - 1)) 0 322)) = bb_Fk D := by unfold bb_Fk; rw [hrow 502 (by decide) (by decide), d502]
      have hLr : ∀ i, i ≠ 508 → ab_u L1 508 0 (ab_I (D 500 5 - 1)).toInt64 i = L1 i := fun i a => ab_u_row a
      have w3' : ∀ j, 0 ≤ j → j < D 500 5 - 1 → bb_WS (bb_cc n) (bb_Fk D j) := fun j a d => w3 j a (by omega)
      refine ⟨⟨by omega, by omega⟩, ⟨?_, ?_, fun j j0 j1 => ?_⟩, ?_, bb_RS_fr hR ?_ (x500 8 (by decide) (by decide)) (x500 9 (by decide) (by decide)) (x500 10 (by decide) (by decide)), by rw [x500 6 (by decide) (by decide)]; exact h6, bb_TX_fr hT ?_ ?_ ?_ (x500 12 (by decide) (by decide)) (x500 13 (by decide) (by decide)) ?_, bb_LN_z hN (.inl rfl) ?_ ?_ (x500 15 (by decide) (by decide)) ?_, bb_RM_z hM (.inl rfl)⟩
      · rw [e1']
        exact bb_WS_congr hg cm.2.1 cm.2.2.1 wF
      · rw [e1', hFk, x5]
        have h9 := bb_CH_fr wF w3' c1 (D' := bb_row (ab_u (bb_E D1) 500 5 (D 500 5 - 1)) 501 (bb_cp (ab_u (bb_E D1) 500 5 (D 500 5 - 1) 501) (ab_u (bb_E D1) 500 5 (D 500 5 - 1) 502) (322 * (D 500 5 - 1)) 0 322)) (L' := ab_u L1 508 0 (ab_I (D 500 5 - 1)).toInt64) (fun i a b d => ⟨hrow i (by omega) (by omega), hLr i (by omega)⟩)
        exact ⟨bb_KS_congr hg wF (fun _ _ _ => ⟨rfl, rfl⟩) h9.1, h9.2⟩
      · rw [x5] at j1
        rw [hFk]
        exact bb_WS_mono cm.2.1 cm.2.2.1 (w3 j j0 (by omega))
      · exact bb_SN_fr n9 hS ((hrow 17 (by decide) (by decide)).trans (f1 17 (by omega)).1) (x500 4 (by decide) (by decide)) (fun i a b => ⟨(hrow i (by omega) (by omega)).trans (f1 i (by omega)).1, (hLr i (by omega)).trans (f1 i (by omega)).2⟩) ((hrow 503 (by decide) (by decide)).trans (f1 503 (by omega)).1)
      · exact (hrow 18 (by decide) (by decide)).trans (f1 18 (by omega)).1
      · rw [hrow 494 (by decide) (by decide), (f1 494 (by omega)).1]
      · exact (hrow 495 (by decide) (by decide)).trans (f1 495 (by omega)).1
      · exact (hrow 505 (by decide) (by decide)).trans (f1 505 (by omega)).1
      · exact (hrow 17 (by decide) (by decide)).trans (f1 17 (by omega)).1
      · exact (hrow 497 (by decide) (by decide)).trans (f1 497 (by omega)).1
      · exact fun i a => (hrow i (by omega) (by omega)).trans (f1 i (by omega)).1
      · exact (hrow 506 (by decide) (by decide)).trans (f1 506 (by omega)).1

theorem bb_op6 {K : ab_Kt} {D : Nat → Int → Int} {L : Nat → Int → Int64} {z : ab_Z} {n : Int} (hn : n < 512) (h : bb_INV n D L z) : bb_OQ K n D L z 6 7 := by
  have hI := h
  obtain ⟨n1, ⟨hw, w2, w3⟩, hS9, hR9, h69, hT9, hL9, -⟩ := hI
  have n9 : 0 ≤ n ∧ n < 512 := ⟨n1.1, hn⟩
  have cm := bb_cc_mono n9
  have hsp := ab_sp0
  have hk := w2.1
  have m := bb_WS_n hw
  obtain ⟨⟨q2, q3, q4, q5, q6, q7, q8, q9⟩, kp, ka, kb, kn⟩ := id hk
  have hwE : bb_WS (bb_cc n) (bb_E D 501) := by rw [bb_E_501]; exact hw
  obtain ⟨D1, L1, e1, c1, f1⟩ := bb_y94 (K := K) (D := D) (L := L) (z := z) (s := 451) (t := 19) (.inr ⟨9, by omega, rfl⟩) hsp (by decide) ka
  have hk1 : bb_KS D1 L1 451 (D 501) := bb_ES_KS c1 hw hk
  obtain ⟨W, hW⟩ : ∃ W, W = ab_u D1 17 4 1 := ⟨_, rfl⟩
  have wr : ∀ i, i ≠ 17 → W i = D1 i := fun i a => by rw [hW]; exact ab_u_row a
  have w174 : W 17 4 = 1 := by rw [hW]; exact ab_u_eq
  have w17 : ∀ k, k ≠ 4 → W 17 k = D 17 k := fun k a => by rw [hW, ab_u_ne (.inr a), (f1 17 (by omega)).1]
  have v1 : W 19 2 = D 501 3 := by rw [wr 19 (by decide), (f1 19 (by omega)).1]; exact q2
  have w501 : W 501 = D 501 := (wr 501 (by decide)).trans (f1 501 (by omega)).1
  have w500 : W 500 = D 500 := (wr 500 (by decide)).trans (f1 500 (by omega)).1
  have mi3 : ab_mi 503 := .inr (.inr (.inl rfl))
  have mi1 : ab_mi 501 := .inl rfl
  have h58 : (0 : Int) + 322 ≤ ab_ml 501 := by show _ ≤ ((322 : Nat) : Int); omega
  have h59 : (0 : Int) + 322 ≤ ab_ml 503 := by show _ ≤ ((322 : Nat) : Int); omega
  have u501 : (ab_u (ab_u W 500 7 0) 500 4 1) 501 = D 501 := by rw [ab_u_row (by decide), ab_u_row (by decide), w501]
  have d501 : (bb_row (ab_u (ab_u W 500 7 0) 500 4 1) 503 (bb_cp ((ab_u (ab_u W 500 7 0) 500 4 1) 503) ((ab_u (ab_u W 500 7 0) 500 4 1) 501) 0 0 322)) 501 = D 501 := by rw [bb_row_ne (by decide), u501]
  have d501' : (bb_row (ab_u (ab_u W 500 7 0) 500 4 1) 503 (bb_cp ((ab_u (ab_u W 500 7 0) 500 4 1) 503) ((ab_u (ab_u W 500 7 0) 500 4 1) 501) 0 0 322)) 501 3 = D 501 3 := by rw [d501]
  have hrow : ∀ i, i ≠ 500 → i ≠ 503 → (bb_row (ab_u (ab_u W 500 7 0) 500 4 1) 503 (bb_cp ((ab_u (ab_u W 500 7 0) 500 4 1) 503) ((ab_u (ab_u W 500 7 0) 500 4 1) 501) 0 0 322)) i = W i := fun i a b => by rw [bb_row_ne b, ab_u_row a, ab_u_row a]
  have x500 : ∀ k, k ≠ 4 → k ≠ 7 → (bb_row (ab_u (ab_u W 500 7 0) 500 4 1) 503 (bb_cp ((ab_u (ab_u W 500 7 0) 500 4 1) 503) ((ab_u (ab_u W 500 7 0) 500 4 1) 501) 0 0 322)) 500 k = D 500 k := fun k a b => by
    rw [bb_row_ne (by decide), ab_u_ne (.inr a), ab_u_ne (.inr b), w500]
  have x4 : (bb_row (ab_u (ab_u W 500 7 0) 500 4 1) 503 (bb_cp ((ab_u (ab_u W 500 7 0) 500 4 1) 503) ((ab_u (ab_u W 500 7 0) 500 4 1) 501) 0 0 322)) 500 4 = 1 := by rw [bb_row_ne (by decide), ab_u_eq]
  have hg : bb_eqg (D 501) (bb_cp ((ab_u (ab_u W 500 7 0) 500 4 1) 503) ((ab_u (ab_u W 500 7 0) 500 4 1) 501) 0 0 322) := by
    rw [u501]
    have h9 := bb_cp_eqg (f := (ab_u (ab_u W 500 7 0) 500 4 1) 503) (src := D 501) (at0 := 0)
    rwa [show (fun k => D 501 (0 + k)) = D 501 from funext (fun k => by rw [Int.zero_add])] at h9
  refine ⟨W, L1, z, bb_row (ab_u (ab_u W 500 7 0) 500 4 1) 503 (bb_cp ((ab_u (ab_u W 500 7 0) 500 4 1) 503) ((ab_u (ab_u W 500 7 0) 500 4 1) 501) 0 0 322), D 501 3, ?_, ?_, ?_, Nat.le_refl _, Nat.le_refl _⟩
  · have sp9 : ab_sp 451 := .inr ⟨9, by omega, rfl⟩
    simp (discharger := first | assumption | exact True.intro | exact not_false | (refine ab_gK ?_; with_unfolding_all rfl) | exact ab_rgI (by omega) (by omega) | omega) only [ab_a6, e1, ← hW, v1, ab_e6_0, ab_e6_1, ab_e6_4, ab_e6_5, ab_e6_8, ab_e6_11, ab_e6_12, ab_e6_13, ab_e6_16, ab_e6_17, ab_e6_20, ab_e6_23, ab_br_t, ab_br_f, ab_re_v (ab_zz _), ab_re_n (ab_zz _)]
  · simp (discharger := first | assumption | exact True.intro | exact not_false | (refine ab_gK ?_; with_unfolding_all rfl) | exact ab_rgI (by omega) (by omega) | omega) only [ab_a7, bb_y93 mi1 mi3 (by decide) (by omega) h58 (by omega) h59, d501', ab_e7_0, ab_e7_1, ab_e7_2, ab_e7_5, ab_e7_6, ab_e7_7, ab_e7_10, ab_e7_11, ab_e7_14, ab_e7_15, ab_e7_16, ab_e7_19, ab_e7_20, ab_e7_23, ab_e7_24, ab_e7_27, ab_e7_28, ab_e7_29, ab_br_t, ab_br_f, ab_re_v (ab_zz _), ab_re_n (ab_zz _)]
  · obtain ⟨n1, hH, hS, hR, h6, hT, hN, hM⟩ := h
    have g : ∀ i, i ≠ 17 → i ≠ 500 → i ≠ 503 → (i < 451 ∨ 494 ≤ i) → (bb_row (ab_u (ab_u W 500 7 0) 500 4 1) 503 (bb_cp ((ab_u (ab_u W 500 7 0) 500 4 1) 503) ((ab_u (ab_u W 500 7 0) 500 4 1) 501) 0 0 322)) i = D i := fun i a b c d => ((hrow i b c).trans (wr i a)).trans (f1 i (by omega)).1
    have d17 : (bb_row (ab_u (ab_u W 500 7 0) 500 4 1) 503 (bb_cp ((ab_u (ab_u W 500 7 0) 500 4 1) 503) ((ab_u (ab_u W 500 7 0) 500 4 1) 501) 0 0 322)) 17 = W 17 := hrow 17 (by decide) (by decide)
    have d503 : (bb_row (ab_u (ab_u W 500 7 0) 500 4 1) 503 (bb_cp ((ab_u (ab_u W 500 7 0) 500 4 1) 503) ((ab_u (ab_u W 500 7 0) 500 4 1) 501) 0 0 322)) 503 = bb_cp ((ab_u (ab_u W 500 7 0) 500 4 1) 503) ((ab_u (ab_u W 500 7 0) 500 4 1) 501) 0 0 322 := bb_row_eq
    refine ⟨⟨by omega, by omega⟩, bb_HS_fr n9 hH (fun i a b c => ⟨g i (by omega) (by omega) (by omega) (by omega), (f1 i (by omega)).2⟩) (x500 5 (by decide) (by decide)) d501 (g 502 (by decide) (by decide) (by decide) (by omega)), ?_, bb_RS_fr hR (g 18 (by decide) (by decide) (by decide) (by omega)) (x500 8 (by decide) (by decide)) (x500 9 (by decide) (by decide)) (x500 10 (by decide) (by decide)), by rw [x500 6 (by decide) (by decide)]; exact h6, ?_, bb_LN_z hN (.inl rfl) (g 497 (by decide) (by decide) (by decide) (by omega)) (fun i a => g i (by omega) (by omega) (by omega) (by omega)) (x500 15 (by decide) (by decide)) (g 506 (by decide) (by decide) (by decide) (by omega)), bb_RM_z hM (.inl rfl)⟩
    · refine ⟨?_, ?_, fun _ => ?_⟩
      · rw [d17]; exact .inr w174
      · rw [d17, x4]; exact w174.symm
      · rw [d503]
        exact ⟨bb_KS_congr hg hw (fun i a b => ⟨(hrow i (by omega) (by omega)).trans (wr i (by omega)), rfl⟩) hk1, bb_WS_congr hg cm.2.1 cm.2.2.1 hw⟩
    · obtain ⟨t1, t2, t3, t4⟩ := hT
      unfold bb_TX
      rw [g 494 (by decide) (by decide) (by decide) (by omega), g 495 (by decide) (by decide) (by decide) (by omega), g 505 (by decide) (by decide) (by decide) (by omega), x500 12 (by decide) (by decide), x500 13 (by decide) (by decide), d17, w17 6 (by decide)]
      exact ⟨t1, t2, t3, t4⟩

theorem bb_op3 {K : ab_Kt} {D : Nat → Int → Int} {L : Nat → Int → Int64} {z : ab_Z} {n : Int} (hn : n < 512) (h : bb_INV n D L z) : bb_OP K n D L z 3 [.ref 17, .ref 508] 4 [.ref 500] := by
  have hI := h
  obtain ⟨n1, ⟨hw, w2, w3⟩, hS9, hR9, h69, hT9, hL9, -⟩ := hI
  have n9 : 0 ≤ n ∧ n < 512 := ⟨n1.1, hn⟩
  have cm := bb_cc_mono n9
  have hsp := ab_sp0
  have hk := w2.1
  have m := bb_WS_n hw
  obtain ⟨⟨q2, q3, q4, q5, q6, q7, q8, q9⟩, kp, ka, kb, kn⟩ := id hk
  have hwE : bb_WS (bb_cc n) (bb_E D 501) := by rw [bb_E_501]; exact hw
  obtain ⟨s1, s2, s3⟩ := id hS9
  by_cases hx : D 17 4 = 0
  · have hx2 : D 500 4 = 0 := s2.trans hx
    refine ⟨D, L, ab_zc (ab_zx z), ab_u D 500 7 1, 1, 0, ?_, ?_, by omega, ab_u_eq, fun x => absurd x (by omega), bb_INV_q hn h (fun i _ e => ab_u_row e) (fun k e => ab_u_ne (.inr e)) (fun i _ => rfl) (.inr rfl), Nat.le_succ _, Nat.le_add_right _ 6⟩
    · simp (discharger := first | assumption | exact True.intro | exact not_false | (refine ab_gK ?_; with_unfolding_all rfl) | exact ab_rgI (by omega) (by omega) | omega) only [ab_a3, ab_a91, hx, ab_re_h (M := 3) (pc := 3) (E := "java/lang/IllegalStateException") (ph := 11) (by rfl) (ab_zzx _), ab_e3_0, ab_e3_1, ab_e3_2, ab_e3_3, ab_e3_6, ab_e3_7, ab_e3_8, ab_e3_11, ab_e3_12, ab_e3_13, ab_e3_14, ab_e3_15, ab_e91_0, ab_e91_1, ab_e91_4, ab_e91_7, ab_e91_15, ab_e91_16, ab_e91_19, ab_e91_20, ab_e91_23, ab_e91_26, ab_e91_27, ab_e91_30, ab_e91_33, ab_e91_34, ab_e91_37, ab_e91_40, ab_br_t, ab_br_f, ab_re_v (ab_zz _), ab_re_n (ab_zz _)]
    · simp (discharger := first | assumption | exact True.intro | exact not_false | (refine ab_gK ?_; with_unfolding_all rfl) | exact ab_rgI (by omega) (by omega) | omega) only [ab_a4, hx2, bb_y92_1, ab_e4_0, ab_e4_1, ab_e4_2, ab_e4_5, ab_e4_8, ab_e4_9, ab_e4_12, ab_e4_13, ab_e4_16, ab_e4_19, ab_e4_20, ab_e4_21, ab_e4_22, ab_e4_25, ab_e4_26, ab_e4_27, ab_e4_30, ab_e4_31, ab_e4_34, ab_e4_35, ab_e4_36, ab_e4_39, ab_e4_40, ab_e4_43, ab_e4_44, ab_e4_45, ab_br_t, ab_br_f, ab_re_v (ab_zz _), ab_re_n (ab_zz _)]
  · have hx1 : D 17 4 = 1 := by omega
    have hx2 : D 500 4 = 1 := s2.trans hx1
    obtain ⟨ks, ws⟩ := s3 hx1
    obtain ⟨D1, L1, e1, c1, f1⟩ := bb_y94 (K := K) (D := D) (L := L) (z := z) (s := 19) (t := 451) hsp (.inr ⟨9, by omega, rfl⟩) (by decide) ks.2.2.1
    have hk1 : bb_KS D1 L1 19 (D 503) := bb_ES_KS c1 ws ks
    have ma := bb_WS_n ws
    obtain ⟨W, hW⟩ : ∃ W, W = ab_u D1 62 2 0 := ⟨_, rfl⟩
    have e2 := bb_y176 (K := K) (D := D1) (L := L1) (z := z)
    rw [← hW] at e2
    have wr : ∀ i, i ≠ 62 → W i = D1 i := fun i a => by rw [hW]; exact ab_u_row a
    have w622 : W 62 2 = 0 := by rw [hW]; exact ab_u_eq
    have w621 : W 62 1 = D 62 1 := by rw [hW, ab_u_ne (.inr (by decide)), (f1 62 (by omega)).1]
    have v1 : W 19 2 = D 503 3 := by rw [wr 19 (by decide)]; exact hk1.1.1
    have w501 : W 501 = D 501 := (wr 501 (by decide)).trans (f1 501 (by omega)).1
    have w503 : W 503 = D 503 := (wr 503 (by decide)).trans (f1 503 (by omega)).1
    have w500 : W 500 = D 500 := (wr 500 (by decide)).trans (f1 500 (by omega)).1
    have w5004 : W 500 4 = 1 := by rw [w500]; exact hx2
    have mi3 : ab_mi 503 := .inr (.inr (.inl rfl))
    have mi1 : ab_mi 501 := .inl rfl
    have h58 : (0 : Int) + 322 ≤ ab_ml 501 := by show _ ≤ ((322 : Nat) : Int); omega
    have h59 : (0 : Int) + 322 ≤ ab_ml 503 := by show _ ≤ ((322 : Nat) : Int); omega
    have E3 : bb_E W 503 = D 503 := (show bb_E W 503 = W 503 from ab_u_row (by decide)).trans w503
    have hg : bb_eqg (D 503) (bb_cp (bb_E W 501) (bb_E W 503) 0 0 322) := by
      rw [E3]
      have h9 := bb_cp_eqg (f := bb_E W 501) (src := D 503) (at0 := 0)
      rwa [show (fun k => D 503 (0 + k)) = D 503 from funext (fun k => by rw [Int.zero_add])] at h9
    have d501 : (ab_u (bb_row (bb_E W) 501 (bb_cp (bb_E W 501) (bb_E W 503) 0 0 322)) 500 5 0) 501 = bb_cp (bb_E W 501) (bb_E W 503) 0 0 322 := by rw [ab_u_row (by decide)]; exact bb_row_eq
    have d5013 : (ab_u (bb_row (bb_E W) 501 (bb_cp (bb_E W 501) (bb_E W 503) 0 0 322)) 500 5 0) 501 3 = D 503 3 := by rw [d501]; exact (hg 3 (by omega) (by omega)).symm
    have hrow : ∀ i, i ≠ 500 → i ≠ 501 → (ab_u (bb_row (bb_E W) 501 (bb_cp (bb_E W 501) (bb_E W 503) 0 0 322)) 500 5 0) i = W i := fun i a b => by rw [ab_u_row a, bb_row_ne b, show bb_E W i = _ from ab_u_row a]
    have x500 : ∀ k, k ≠ 5 → k ≠ 7 → (ab_u (bb_row (bb_E W) 501 (bb_cp (bb_E W 501) (bb_E W 503) 0 0 322)) 500 5 0) 500 k = D 500 k := fun k a b => by
      rw [ab_u_ne (.inr a), bb_row_ne (by decide), bb_E_500 b, w500]
    have x5 : (ab_u (bb_row (bb_E W) 501 (bb_cp (bb_E W 501) (bb_E W 503) 0 0 322)) 500 5 0) 500 5 = 0 := ab_u_eq
    refine ⟨W, ab_u L1 508 0 (ab_I (D 503 3)).toInt64, z, ab_u (bb_row (bb_E W) 501 (bb_cp (bb_E W 501) (bb_E W 503) 0 0 322)) 500 5 0, 0, D 503 3, ?_, ?_, by omega, ?_, fun _ => ab_u_eq, ?_, Nat.le_refl _, Nat.le_refl _⟩
    · have sp9 : ab_sp 451 := .inr ⟨9, by omega, rfl⟩
      simp (discharger := first | assumption | exact True.intro | exact not_false | (refine ab_gK ?_; with_unfolding_all rfl) | exact ab_rgI (by omega) (by omega) | omega) only [ab_a3, ab_a91, hx1, e1, e2, v1, ab_e3_0, ab_e3_1, ab_e3_2, ab_e3_3, ab_e3_6, ab_e3_7, ab_e3_8, ab_e3_11, ab_e3_12, ab_e3_13, ab_e3_14, ab_e3_15, ab_e91_0, ab_e91_1, ab_e91_4, ab_e91_7, ab_e91_15, ab_e91_16, ab_e91_19, ab_e91_20, ab_e91_23, ab_e91_26, ab_e91_27, ab_e91_30, ab_e91_33, ab_e91_34, ab_e91_37, ab_e91_40, ab_br_t, ab_br_f, ab_re_v (ab_zz _), ab_re_n (ab_zz _)]
    · simp (discharger := first | assumption | exact True.intro | exact not_false | (refine ab_gK ?_; with_unfolding_all rfl) | exact ab_rgI (by omega) (by omega) | omega) only [ab_a4, w5004, bb_y92_0, bb_y93 mi3 mi1 (by decide) (by omega) h59 (by omega) h58, d5013, ab_e4_0, ab_e4_1, ab_e4_2, ab_e4_5, ab_e4_8, ab_e4_9, ab_e4_12, ab_e4_13, ab_e4_16, ab_e4_19, ab_e4_20, ab_e4_21, ab_e4_22, ab_e4_25, ab_e4_26, ab_e4_27, ab_e4_30, ab_e4_31, ab_e4_34, ab_e4_35, ab_e4_36, ab_e4_39, ab_e4_40, ab_e4_43, ab_e4_44, ab_e4_45, ab_br_t, ab_br_f, ab_re_v (ab_zz _), ab_re_n (ab_zz _)]
    · rw [ab_u_ne (.inr (by decide)), bb_row_ne (by decide)]
      exact ab_u_eq
    · obtain ⟨n1, hH, hS, hR, h6, hT, hN, hM⟩ := h
      have g : ∀ i, i ≠ 62 → i ≠ 500 → i ≠ 501 → (i < 19 ∨ 62 ≤ i) → (ab_u (bb_row (bb_E W) 501 (bb_cp (bb_E W 501) (bb_E W 503) 0 0 322)) 500 5 0) i = D i := fun i a b c d => ((hrow i b c).trans (wr i a)).trans (f1 i (by omega)).1
      have hLr : ∀ i, i ≠ 508 → ab_u L1 508 0 (ab_I (D 503 3)).toInt64 i = L1 i := fun i a => ab_u_row a
      refine ⟨⟨by omega, by omega⟩, ⟨?_, ?_, fun j j0 j1 => ?_⟩, bb_SN_fr n9 hS (g 17 (by decide) (by decide) (by decide) (by omega)) (x500 4 (by decide) (by decide)) (fun i a b => ⟨g i (by omega) (by omega) (by omega) (by omega), (hLr i (by omega)).trans (f1 i (by omega)).2⟩) (g 503 (by decide) (by decide) (by decide) (by omega)), bb_RS_fr hR (g 18 (by decide) (by decide) (by decide) (by omega)) (x500 8 (by decide) (by decide)) (x500 9 (by decide) (by decide)) (x500 10 (by decide) (by decide)), by rw [x500 6 (by decide) (by decide)]; exact h6, bb_TX_fr hT ?_ (g 495 (by decide) (by decide) (by decide) (by omega)) (g 505 (by decide) (by decide) (by decide) (by omega)) (x500 12 (by decide) (by decide)) (x500 13 (by decide) (by decide)) (g 17 (by decide) (by decide) (by decide) (by omega)), bb_LN_z hN (.inl rfl) (g 497 (by decide) (by decide) (by decide) (by omega)) (fun i a => g i (by omega) (by omega) (by omega) (by omega)) (x500 15 (by decide) (by decide)) (g 506 (by decide) (by decide) (by decide) (by omega)), bb_RM_z hM (.inl rfl)⟩
      · rw [d501]
        exact bb_WS_congr hg cm.2.1 cm.2.2.1 ws
      · rw [x5, d501]
        have e62 : (ab_u (bb_row (bb_E W) 501 (bb_cp (bb_E W 501) (bb_E W 503) 0 0 322)) 500 5 0) 62 = W 62 := hrow 62 (by decide) (by decide)
        refine ⟨bb_KS_congr hg ws (fun i a b => ⟨(hrow i (by omega) (by omega)).trans (wr i (by omega)), hLr i (by omega)⟩) hk1, ?_, ?_, by omega, fun j a b => by omega⟩
        · rw [e62, w621]; exact w2.2.1
        · rw [e62]; exact w622
      · rw [x5] at j1; omega
      · rw [g 494 (by decide) (by decide) (by decide) (by omega)]

