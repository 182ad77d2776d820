/-! ===== commands ===== -/
theorem bb_INV_g {n : Int} {D D' : Nat → Int → Int} {L L' : Nat → Int → Int64} {z z' : ab_Z} (hn : n < 512) (h : bb_INV n D L z) {g' : Int → Int} {F' : Int → Int → Int} {m' : Int} (hw : bb_WS (bb_cc (n + 1)) g') (he : bb_eqg g' (D' 501)) (hC : bb_CH D' L' g' F' m') (hF : ∀ j, 0 ≤ j → j < m' → bb_WS (bb_cc (n + 1)) (F' j)) (hE : ∀ j, 0 ≤ j → j < m' → bb_eqg (F' j) (bb_Fk D' j)) (hm : D' 500 5 = m') (hD : ∀ i, 451 ≤ i → i ≠ 494 → i ≠ 496 → i ≠ 499 → i ≠ 500 → i ≠ 501 → i ≠ 502 → i ≠ 504 → i ≠ 507 → D' i = D i) (h17 : D' 17 4 = D 17 4) (h4 : D' 500 4 = D 500 4) (h15 : D' 500 15 = D 500 15) (hR : bb_RS D') (h6 : D' 500 6 = 0) (hT : bb_TX D') (hL : ∀ i, 451 ≤ i → i < 494 → L' i = L i) (hz : z' = z ∨ z' = ab_zc (ab_zx z)) : bb_INV (n + 1) D' L' z' := by
  obtain ⟨n1, hH, ⟨s1, s2, s3⟩, -, -, -, hN, hM⟩ := h
  have n9 : 0 ≤ n ∧ n < 512 := ⟨n1.1, hn⟩
  have cm := bb_cc_mono n9
  refine ⟨⟨by omega, by omega⟩, ⟨bb_WS_congr he (Int.le_refl _) cm.2.2.1 hw, ?_, ?_⟩, ⟨by rw [h17]; exact s1, by rw [h17, h4]; exact s2, fun x => ?_⟩, hR, h6, hT, bb_LN_z hN hz (hD 497 (by decide) (by decide) (by decide) (by decide) (by decide) (by decide) (by decide) (by decide) (by decide)) (fun i a => hD i (by omega) (by omega) (by omega) (by omega) (by omega) (by omega) (by omega) (by omega) (by omega)) h15 (hD 506 (by decide) (by decide) (by decide) (by decide) (by decide) (by decide) (by decide) (by decide) (by decide)), bb_RM_z hM hz⟩
  · rw [hm]
    exact bb_CH_congr hF hE ⟨bb_KS_congr he hw (fun _ _ _ => ⟨rfl, rfl⟩) hC.1, hC.2⟩
  · rw [hm]
    exact fun j j0 j1 => bb_WS_congr (hE j j0 j1) (Int.le_refl _) cm.2.2.1 (hF j j0 j1)
  · rw [h17] at x
    obtain ⟨s4, s5⟩ := s3 x
    rw [hD 503 (by decide) (by decide) (by decide) (by decide) (by decide) (by decide) (by decide) (by decide) (by decide)]
    exact ⟨bb_KS_fr s5 (fun i a b => ⟨hD i (by omega) (by omega) (by omega) (by omega) (by omega) (by omega) (by omega) (by omega) (by omega), hL i (by omega) (by omega)⟩) s4, bb_WS_mono cm.2.1 cm.2.2.1 s5⟩
theorem bb_fl_rg {c : Int → Int} {n : Int} (f : Nat) (p q : Int) (p0 : 0 ≤ p) (pn : p ≤ n) : -1 ≤ (bb_fl c n f p q).1 ∧ (bb_fl c n f p q).1 ≤ n := by
  cases f with
  | zero => show -1 ≤ p ∧ p ≤ n; omega
  | succ f =>
    obtain ⟨r1, r2, r3, r4⟩ := bb_pr_rg c n p pn
    rw [bb_fl1]
    by_cases h3 : (bb_pr c n p).1 = 0
    · rw [if_pos h3]; dsimp only; omega
    rw [if_neg h3]
    by_cases h5 : n ≤ (bb_pr c n p).2
    · rw [if_pos h5]; dsimp only; omega
    rw [if_neg h5]
    by_cases h7 : c (bb_pr c n p).2 = 59
    · rw [if_pos h7]; exact bb_fl_rg f _ _ (by omega) (by omega)
    · rw [if_neg h7]; dsimp only; omega
theorem bb_op24 {K : ab_Kt} {D : Nat → Int → Int} {L : Nat → Int → Int64} {z : ab_Z} {n : Int} (hn : n < 512) (h : bb_INV n D L z) : bb_OP K n D L z 24 [.ref 17, .ref 508] 25 [.ref 500] := by
  have hI := h
  obtain ⟨n1, ⟨hw, w2, w3⟩, hS9, hR9, h69, hT9, hL9, -⟩ := hI
  have n9 : 0 ≤ n ∧ n < 512 := ⟨n1.1, hn⟩
  have cm := bb_cc_mono n9
  have hsp := ab_sp0
  have hk := w2.1
  have m := bb_WS_n hw
  obtain ⟨⟨q2, q3, q4, q5, q6, q7, q8, q9⟩, kp, ka, kb, kn⟩ := id hk
  have hwE : bb_WS (bb_cc n) (bb_E D 501) := by rw [bb_E_501]; exact hw
  obtain ⟨t0, t2, t3, t4⟩ := id hT9
  have hX : bb_X D (D 505) (D 500 12) := ⟨t0, t2, t3⟩
  have hg := bb_fl_rg (c := D 505) (n := D 500 12) 61 0 0 (Int.le_refl _) t0.1
  have cb : bb_cc n + 30000 = bb_cc (n + 1) := by unfold bb_cc; omega
  have cb2 := cm.2.2.1
  have m5 := w2.2.2.2.1
  obtain ⟨D1, e1, d1, d2, d3⟩ := bb_y190g (K := K) (L := L) (z := z) hX
  by_cases hfl : (bb_fl (D 505) (D 500 12) 61 0 0).1 = -1
  · obtain ⟨m, hm⟩ : ∃ m, m = (bb_fl (D 505) (D 500 12) 61 0 0).2 := ⟨_, rfl⟩
    have hfl2 : (bb_fl (D 505) (D 500 12) 61 0 0) = (-1, m) := Prod.ext hfl hm.symm
    obtain ⟨b1, b2⟩ := bb_fl_m t0.2 61 0 0 (Int.le_refl _) t0.1 (by omega) (by omega) hfl2
    rw [hfl] at e1
    rw [← hm] at d3
    obtain ⟨W0, hW0⟩ : ∃ W0, W0 = ab_u D1 17 6 (-1) := ⟨_, rfl⟩
    have u0 : ∀ i, i ≠ 17 → i ≠ 494 → i ≠ 496 → W0 i = D i := fun i a b e => by rw [hW0, ab_u_row a, d1 i b e]
    have u6 : W0 17 6 = -1 := by rw [hW0, ab_u_eq]
    have u17 : ∀ k, k ≠ 6 → W0 17 k = D 17 k := fun k a => by rw [hW0, ab_u_ne (.inr a), d1 17 (by decide) (by decide)]
    have u494 : W0 494 = D1 494 := by rw [hW0, ab_u_row (by decide)]
    have c0 : bb_CH W0 L (D 501) (bb_Fk D) (D 500 5) := bb_CH_fr hw w3 w2 (fun i a b e => ⟨u0 i (by omega) (by omega) (by omega), rfl⟩)
    obtain ⟨D2, L2, e2, c2, k2, f2⟩ := bb_y192 (K := K) (z := z) hw w3 c0
    have X2 : bb_X D2 (D 505) (D 500 12) := by
      refine ⟨t0, by rw [(f2 494 (by omega)).1, u494, d2]; exact t2, fun j j0 j1 => ?_⟩
      rw [(f2 495 (by omega)).1, u0 495 (by decide) (by decide) (by decide)]
      exact t3 j j0 j1
    have h2m : D2 494 2 = m := by rw [(f2 494 (by omega)).1, u494]; exact d3
    have hex9 := bb_ex_rg (c := D 505) 61 0 0 (bb_cc n) (D 501) (Int.le_refl _) t0.1 (by omega) hfl2 hw (by omega)
    rcases hex : bb_ex (D 505) (D 500 12) 61 0 0 (D 501) with ⟨r, d, i⟩ | g'
    · obtain ⟨hr9, hi9⟩ := hex9.1 r d i hex
      obtain ⟨D3, L3, e3, ⟨x1, x2, x3⟩, r1, r2, r3, r4, g9, wg9, kg9⟩ := bb_y193n (K := K) (z := z) X2 h2m hfl2 hw c2.1 (by omega) hex
      obtain ⟨D4, hD4⟩ : ∃ D4, D4 = ab_u D3 494 1 0 := ⟨_, rfl⟩
      have v4 : ∀ i, i ≠ 494 → D4 i = D3 i := fun i a => by rw [hD4, ab_u_row a]
      have e62 : D4 62 = D2 62 := (v4 62 (by decide)).trans (x1 62 (by omega) (by decide) (by decide))
      have s62 := bb_sI_e (D2 62 1)
      obtain ⟨-, n2, n3, n4, n5⟩ := id c2
      have c4 : bb_CH D4 L3 g9 (bb_Fk D) (D 500 5) := by
        refine ⟨bb_KS_fr wg9 (fun i a b => ⟨v4 i (by omega), rfl⟩) kg9, by rw [e62]; exact n2, by rw [e62]; exact n3, n4, fun j j0 j1 => ?_⟩
        rw [e62]
        have sj := bb_sI_e ((D2 62 1 - D 500 5 + j) % 9)
        exact bb_KS_fr (w3 j j0 j1) (fun i x y => ⟨(v4 i (by omega)).trans (x1 i (by omega) (by omega) (by omega)), x2 i (by omega)⟩) (n5 j j0 j1)
      have k4 : bb_KS D4 L3 (ab_sI (D4 62 1)) (D 501) := by
        rw [e62]
        exact bb_KS_fr hw (fun i x y => ⟨(v4 i (by omega)).trans (x1 i (by omega) (by omega) (by omega)), x2 i (by omega)⟩) k2
      obtain ⟨D5, L5, e5, c5, f5⟩ := bb_y194 (K := K) (z := z) wg9 (bb_WS_mono (by omega) (by omega) hw) (fun j j0 j1 => bb_WS_mono (by omega) (by omega) (w3 j j0 j1)) c4 k4
      have hrow : ∀ i, 451 ≤ i → i ≠ 494 → i ≠ 496 → D5 i = D i := fun i a b e => by
        rw [(f5 i (by omega)).1, v4 i b, x1 i (by omega) b e, (f2 i (by omega)).1, u0 i (by omega) b e]
      have h17 : D5 17 = W0 17 := by rw [(f5 17 (by omega)).1, v4 17 (by decide), x1 17 (by omega) (by decide) (by decide), (f2 17 (by omega)).1]
      have h18 : D5 18 = D3 18 := by rw [(f5 18 (by omega)).1, v4 18 (by decide)]
      have g500 : D5 500 = D 500 := hrow 500 (by decide) (by decide) (by decide)
      have g501 : D5 501 = D 501 := hrow 501 (by decide) (by decide) (by decide)
      have g505 : D5 505 = D 505 := hrow 505 (by decide) (by decide) (by decide)
      have h494 : D5 494 1 = 0 := by rw [(f5 494 (by omega)).1, hD4, ab_u_eq]
      have hY : bb_Y D5 (D 505) (D 500 12) := ⟨t0, by rw [g500], fun j j0 j1 => ⟨by rw [g505], (t3 j j0 j1).2⟩⟩
      obtain ⟨D6, e6, a1, a2, a6, a7, a8, a9, a10, a12, a13, a501⟩ := bb_y25n (K := K) (D := D5) (L := L5) (z := ab_zc (ab_zx z)) hY hfl2 (by rw [g500]; exact m5) (w := bb_cc n) (by rw [g501]; exact hw) (by omega) (by rw [g501]; exact hex) ⟨hi9.1, hi9.2⟩
      have e195 := bb_y195t (K := K) (D := D5) (L := L5) (z := z)
      have i500 : ∀ k, k ≠ 6 → k ≠ 7 → k ≠ 8 → k ≠ 9 → k ≠ 10 → k ≠ 12 → k ≠ 13 → k ≠ 16 → k ≠ 18 → D6 500 k = D 500 k := fun k a b e f g p q s t => by rw [a2 k a b e f g p q s t, g500]
      have j6 : ∀ i, i ≠ 500 → i ≠ 501 → i ≠ 504 → i ≠ 507 → D6 i = D5 i := a1
      rw [g501] at a501
      have fk : bb_Fk D6 = bb_Fk D := by unfold bb_Fk; rw [j6 502 (by decide) (by decide) (by decide) (by decide), hrow 502 (by decide) (by decide) (by decide)]
      refine ⟨D5, L5, ab_zc (ab_zx z), D6, 2, 0, ?_, e6, by omega, a7, fun x => absurd x (by omega), bb_INV_g hn h (g' := D 501) (F' := bb_Fk D) (m' := D 500 5) (bb_WS_mono cm.2.1 cm.2.2.1 hw) a501 (bb_CH_fr hw w3 c5 (fun i a b e => ⟨j6 i (by omega) (by omega) (by omega) (by omega), rfl⟩)) (fun j j0 j1 => bb_WS_mono cm.2.1 cm.2.2.1 (w3 j j0 j1)) (fun j _ _ k _ _ => by rw [fk]) (i500 5 (by decide) (by decide) (by decide) (by decide) (by decide) (by decide) (by decide) (by decide) (by decide)) (fun i a b c' d' e f g p q => (j6 i e f p q).trans (hrow i a b c')) ?_ (i500 4 (by decide) (by decide) (by decide) (by decide) (by decide) (by decide) (by decide) (by decide) (by decide)) (i500 15 (by decide) (by decide) (by decide) (by decide) (by decide) (by decide) (by decide) (by decide) (by decide)) ?_ a6 ?_ (fun i a b => ?_) (.inr rfl), Nat.le_succ _, Nat.le_add_right _ 6⟩
      · simp (discharger := first | assumption | exact True.intro | exact not_false | (refine ab_gK ?_; with_unfolding_all rfl) | exact ab_rgI (by omega) (by omega) | omega) only [ab_a24, ab_a114, e1, ← hW0, u6, e2, e3, bb_y191, ← hD4, e5, e195, ab_re_t (M := 114) (pc := 82) (E := "java/lang/UnsupportedOperationException") (by rfl) (ab_zzx _), ab_re_h (M := 24) (pc := 3) (E := "java/lang/UnsupportedOperationException") (ph := 14) (by rfl) (ab_zzx _), ab_e24_0, ab_e24_1, ab_e24_2, ab_e24_3, ab_e24_6, ab_e24_7, ab_e24_8, ab_e24_11, ab_e24_12, ab_e24_13, ab_e24_14, ab_e24_15, ab_e24_16, ab_e24_17, ab_e24_18, ab_e114_0, ab_e114_1, ab_e114_2, ab_e114_5, ab_e114_8, ab_e114_11, ab_e114_12, ab_e114_15, ab_e114_16, ab_e114_19, ab_e114_20, ab_e114_23, ab_e114_26, ab_e114_34, ab_e114_35, ab_e114_38, ab_e114_39, ab_e114_42, ab_e114_45, ab_e114_46, ab_e114_49, ab_e114_50, ab_e114_53, ab_e114_56, ab_e114_57, ab_e114_58, ab_e114_61, ab_e114_64, ab_e114_65, ab_e114_66, ab_e114_69, ab_e114_70, ab_e114_73, ab_e114_74, ab_e114_77, ab_e114_80, ab_e114_81, ab_e114_82, ab_e114_85, ab_br_t, ab_br_f, ab_re_v (ab_zz _), ab_re_n (ab_zz _)]
      · rw [j6 17 (by decide) (by decide) (by decide) (by decide), h17, u17 4 (by decide)]
      · refine ⟨⟨?_, ?_, ?_⟩, ?_, ?_⟩
        · rw [j6 18 (by decide) (by decide) (by decide) (by decide), h18, a8]; exact r1
        · rw [j6 18 (by decide) (by decide) (by decide) (by decide), h18, a9]; exact r2
        · rw [j6 18 (by decide) (by decide) (by decide) (by decide), h18, a10]; exact r3
        · rw [j6 18 (by decide) (by decide) (by decide) (by decide), h18]; exact r4
        · rw [j6 18 (by decide) (by decide) (by decide) (by decide), h18, r1]; omega
      · refine ⟨by rw [a12]; omega, by rw [a12, j6 494 (by decide) (by decide) (by decide) (by decide)]; exact h494, fun k k0 k1 => ?_, by rw [a13, j6 17 (by decide) (by decide) (by decide) (by decide), h17]; exact u6⟩
        rw [a12] at k1
        omega
      · rw [(f5 i (by omega)).2, x2 i (by omega), (f2 i (by omega)).2]
    · have wg := hex9.2 g' hex
      have wg2 : bb_WS (bb_cc (n + 1)) g' := bb_WS_mono (by omega) cb2 wg
      obtain ⟨D3, L3, e3, ⟨x1, x2, x3⟩, k3, r1, r2⟩ := bb_y193k (K := K) (z := z) X2 h2m hfl2 hw c2.1 (by omega) hex
      obtain ⟨D4, hD4⟩ : ∃ D4, D4 = ab_u D3 494 1 0 := ⟨_, rfl⟩
      have v4 : ∀ i, i ≠ 494 → D4 i = D3 i := fun i a => by rw [hD4, ab_u_row a]
      have e62 : D4 62 = D2 62 := (v4 62 (by decide)).trans (x1 62 (by omega) (by decide) (by decide))
      have s62 := bb_sI_e (D2 62 1)
      obtain ⟨-, n2, n3, n4, n5⟩ := id c2
      have c4 : bb_CH D4 L3 g' (bb_Fk D) (D 500 5) := by
        refine ⟨bb_KS_fr wg2 (fun i a b => ⟨v4 i (by omega), rfl⟩) k3, by rw [e62]; exact n2, by rw [e62]; exact n3, n4, fun j j0 j1 => ?_⟩
        rw [e62]
        have sj := bb_sI_e ((D2 62 1 - D 500 5 + j) % 9)
        exact bb_KS_fr (w3 j j0 j1) (fun i x y => ⟨(v4 i (by omega)).trans (x1 i (by omega) (by omega) (by omega)), x2 i (by omega)⟩) (n5 j j0 j1)
      have k4 : bb_KS D4 L3 (ab_sI (D4 62 1)) (D 501) := by
        rw [e62]
        exact bb_KS_fr hw (fun i x y => ⟨(v4 i (by omega)).trans (x1 i (by omega) (by omega) (by omega)), x2 i (by omega)⟩) k2
      obtain ⟨D5, e5, c5, f5⟩ := bb_y195 (K := K) (z := z) wg2 (bb_WS_mono cm.2.1 cb2 hw) (fun j j0 j1 => bb_WS_mono cm.2.1 cb2 (w3 j j0 j1)) c4 k4 (v := m) ⟨by omega, by omega⟩
      have hrow : ∀ i, 451 ≤ i → i ≠ 494 → i ≠ 496 → D5 i = D i := fun i a b e => by
        rw [f5 i (by omega), v4 i b, x1 i (by omega) b e, (f2 i (by omega)).1, u0 i (by omega) b e]
      have h17 : D5 17 = W0 17 := by rw [f5 17 (by decide), v4 17 (by decide), x1 17 (by omega) (by decide) (by decide), (f2 17 (by omega)).1]
      have h18 : D5 18 = D3 18 := by rw [f5 18 (by decide), v4 18 (by decide)]
      have h18' : ∀ k, k ≠ 4 → D3 18 k = D 18 k := fun k a => by rw [r1 k a, (f2 18 (by omega)).1, u0 18 (by decide) (by decide) (by decide)]
      have g500 : D5 500 = D 500 := hrow 500 (by decide) (by decide) (by decide)
      have g501 : D5 501 = D 501 := hrow 501 (by decide) (by decide) (by decide)
      have g502 : D5 502 = D 502 := hrow 502 (by decide) (by decide) (by decide)
      have g505 : D5 505 = D 505 := hrow 505 (by decide) (by decide) (by decide)
      have h494 : D5 494 1 = 0 := by rw [f5 494 (by decide), hD4, ab_u_eq]
      have hY : bb_Y D5 (D 505) (D 500 12) := ⟨t0, by rw [g500], fun j j0 j1 => ⟨by rw [g505], (t3 j j0 j1).2⟩⟩
      have fk5 : bb_Fk D5 = bb_Fk D := by unfold bb_Fk; rw [g502]
      obtain ⟨D6, e6, a1, a2, a5, a6, a7, a12, a13, a501, aF⟩ := bb_y25k (K := K) (D := D5) (L := ab_u L3 508 0 (ab_I m).toInt64) (z := z) hY hfl2 (by rw [g500]; exact m5) (w := bb_cc n) (by rw [g501]; exact hw) (by omega) (by rw [g501]; exact hex)
      rw [g500] at a5
      rw [g501, g500, fk5] at aF
      have i500 : ∀ k, k ≠ 5 → k ≠ 6 → k ≠ 7 → k ≠ 12 → k ≠ 13 → k ≠ 16 → k ≠ 18 → D6 500 k = D 500 k := fun k a b e f g p q => by rw [a2 k a b e f g p q, g500]
      have hLr : ∀ i, i ≠ 508 → ab_u L3 508 0 (ab_I m).toInt64 i = L3 i := fun i a => ab_u_row a
      have hFW := bb_F1_WS (c' := bb_cc (n + 1)) cm.2.1 cm.2.2.1 hw w3
      have hm1 : ¬ m = -1 := by omega
      have hmr : ab_rg m := ab_rgI (by omega) (by omega)
      obtain ⟨⟨q1, q10, q11⟩, q12, q13⟩ := hR9
      refine ⟨D5, ab_u L3 508 0 (ab_I m).toInt64, z, D6, 0, m, ?_, e6, by omega, a7, fun _ => ab_u_eq, bb_INV_g hn h wg2 (by rw [a501]; exact fun _ _ _ => rfl) (bb_CH_fr wg2 hFW c5 (fun i a b e => ⟨a1 i (by omega) (by omega) (by omega) (by omega) (by omega), hLr i (by omega)⟩)) hFW aF a5 (fun i a b c' d' e f g p q => (a1 i e f g p q).trans (hrow i a b c')) ?_ (i500 4 (by decide) (by decide) (by decide) (by decide) (by decide) (by decide) (by decide)) (i500 15 (by decide) (by decide) (by decide) (by decide) (by decide) (by decide) (by decide)) ?_ a6 ?_ (fun i a b => ?_) (.inl rfl), Nat.le_refl _, Nat.le_refl _⟩
      · simp (discharger := first | assumption | exact True.intro | exact not_false | (refine ab_gK ?_; with_unfolding_all rfl) | exact ab_rgI (by omega) (by omega) | omega) only [ab_a24, ab_a114, e1, ← hW0, u6, e2, e3, bb_y191, ← hD4, e5, ab_e24_0, ab_e24_1, ab_e24_2, ab_e24_3, ab_e24_6, ab_e24_7, ab_e24_8, ab_e24_11, ab_e24_12, ab_e24_13, ab_e24_14, ab_e24_15, ab_e24_16, ab_e24_17, ab_e24_18, ab_e114_0, ab_e114_1, ab_e114_2, ab_e114_5, ab_e114_8, ab_e114_11, ab_e114_12, ab_e114_15, ab_e114_16, ab_e114_19, ab_e114_20, ab_e114_23, ab_e114_26, ab_e114_34, ab_e114_35, ab_e114_38, ab_e114_39, ab_e114_42, ab_e114_45, ab_e114_46, ab_e114_49, ab_e114_50, ab_e114_53, ab_e114_56, ab_e114_57, ab_e114_58, ab_e114_61, ab_e114_64, ab_e114_65, ab_e114_66, ab_e114_69, ab_e114_70, ab_e114_73, ab_e114_74, ab_e114_77, ab_e114_80, ab_e114_81, ab_e114_82, ab_e114_85, ab_br_t, ab_br_f, ab_re_v (ab_zz _), ab_re_n (ab_zz _)]
      · rw [a1 17 (by decide) (by decide) (by decide) (by decide) (by decide), h17, u17 4 (by decide)]
      · have y18 : D6 18 = D3 18 := (a1 18 (by decide) (by decide) (by decide) (by decide) (by decide)).trans h18
        refine ⟨⟨?_, ?_, ?_⟩, ?_, ?_⟩
        · rw [y18, h18' 1 (by decide), i500 8 (by decide) (by decide) (by decide) (by decide) (by decide) (by decide) (by decide)]; exact q1
        · rw [y18, h18' 2 (by decide), i500 9 (by decide) (by decide) (by decide) (by decide) (by decide) (by decide) (by decide)]; exact q10
        · rw [y18, h18' 3 (by decide), i500 10 (by decide) (by decide) (by decide) (by decide) (by decide) (by decide) (by decide)]; exact q11
        · rw [y18]; exact r2
        · rw [y18, h18' 1 (by decide)]; exact q13
      · refine ⟨by rw [a12]; omega, by rw [a12, a1 494 (by decide) (by decide) (by decide) (by decide) (by decide)]; exact h494, fun k k0 k1 => ?_, by rw [a13, a1 17 (by decide) (by decide) (by decide) (by decide) (by decide), h17]; exact u6⟩
        rw [a12] at k1
        omega
      · rw [hLr i (by omega), x2 i (by omega), (f2 i (by omega)).2]
  · obtain ⟨x, hx⟩ : ∃ x, x = (bb_fl (D 505) (D 500 12) 61 0 0).1 := ⟨_, rfl⟩
    rw [← hx] at e1 hfl hg
    have hxr : ab_rg x := ab_rgI (by omega) (by omega)
    obtain ⟨W0, hW0⟩ : ∃ W0, W0 = ab_u D1 17 6 x := ⟨_, rfl⟩
    obtain ⟨W1, hW1⟩ : ∃ W1, W1 = ab_u W0 494 1 0 := ⟨_, rfl⟩
    have u6 : W0 17 6 = x := by rw [hW0, ab_u_eq]
    have u0 : ∀ i, i ≠ 17 → i ≠ 494 → i ≠ 496 → W1 i = D i := fun i a b e => by rw [hW1, ab_u_row b, hW0, ab_u_row a, d1 i b e]
    have u17 : W1 17 = W0 17 := by rw [hW1, ab_u_row (by decide)]
    have u17' : ∀ k, k ≠ 6 → W1 17 k = D 17 k := fun k a => by rw [u17, hW0, ab_u_ne (.inr a), d1 17 (by decide) (by decide)]
    have h494 : W1 494 1 = 0 := by rw [hW1, ab_u_eq]
    have g500 : W1 500 = D 500 := u0 500 (by decide) (by decide) (by decide)
    have g505 : W1 505 = D 505 := u0 505 (by decide) (by decide) (by decide)
    have hY : bb_Y W1 (D 505) (D 500 12) := ⟨t0, by rw [g500], fun j j0 j1 => ⟨by rw [g505], (t3 j j0 j1).2⟩⟩
    obtain ⟨D6, e6, a1, a2, a7, a12, a13⟩ := bb_y25f (K := K) (L := L) (z := ab_zc (ab_zx z)) hY (by rw [← hx]; exact hfl)
    rw [← hx] at a13
    have i500 : ∀ k, k ≠ 7 → k ≠ 12 → k ≠ 13 → k ≠ 16 → k ≠ 18 → D6 500 k = D 500 k := fun k a b e f g => by rw [a2 k a b e f g, g500]
    have g6 : ∀ i, i ≠ 17 → i ≠ 494 → i ≠ 496 → i ≠ 500 → i ≠ 507 → D6 i = D i := fun i a b e f g => (a1 i f g).trans (u0 i a b e)
    have fk : bb_Fk D6 = bb_Fk D := by unfold bb_Fk; rw [g6 502 (by decide) (by decide) (by decide) (by decide) (by decide)]
    refine ⟨W1, L, ab_zc (ab_zx z), D6, 1, 0, ?_, e6, by omega, a7, fun x => absurd x (by omega), bb_INV_g hn h (g' := D 501) (F' := bb_Fk D) (m' := D 500 5) (bb_WS_mono cm.2.1 cm.2.2.1 hw) (by rw [g6 501 (by decide) (by decide) (by decide) (by decide) (by decide)]; exact fun _ _ _ => rfl) (bb_CH_fr hw w3 w2 (fun i a b e => ⟨g6 i (by omega) (by omega) (by omega) (by omega) (by omega), rfl⟩)) (fun j j0 j1 => bb_WS_mono cm.2.1 cm.2.2.1 (w3 j j0 j1)) (fun j _ _ k _ _ => by rw [fk]) (i500 5 (by decide) (by decide) (by decide) (by decide) (by decide)) (fun i a b c' d' e f g p q => g6 i (by omega) b c' e q) ?_ (i500 4 (by decide) (by decide) (by decide) (by decide) (by decide)) (i500 15 (by decide) (by decide) (by decide) (by decide) (by decide)) (bb_RS_fr hR9 (g6 18 (by decide) (by decide) (by decide) (by decide) (by decide)) (i500 8 (by decide) (by decide) (by decide) (by decide) (by decide)) (i500 9 (by decide) (by decide) (by decide) (by decide) (by decide)) (i500 10 (by decide) (by decide) (by decide) (by decide) (by decide))) (by rw [i500 6 (by decide) (by decide) (by decide) (by decide) (by decide)]; exact h69) ?_ (fun i a b => rfl) (.inr rfl), Nat.le_succ _, Nat.le_add_right _ 6⟩
    · simp (discharger := first | assumption | exact True.intro | exact not_false | (refine ab_gK ?_; with_unfolding_all rfl) | exact ab_rgI (by omega) (by omega) | omega) only [ab_a24, ab_a114, e1, ← hW0, u6, bb_y191, ← hW1, ab_re_h (M := 24) (pc := 3) (E := "java/lang/IllegalArgumentException") (ph := 11) (by rfl) (ab_zzx _), ab_e24_0, ab_e24_1, ab_e24_2, ab_e24_3, ab_e24_6, ab_e24_7, ab_e24_8, ab_e24_11, ab_e24_12, ab_e24_13, ab_e24_14, ab_e24_15, ab_e24_16, ab_e24_17, ab_e24_18, ab_e114_0, ab_e114_1, ab_e114_2, ab_e114_5, ab_e114_8, ab_e114_11, ab_e114_12, ab_e114_15, ab_e114_16, ab_e114_19, ab_e114_20, ab_e114_23, ab_e114_26, ab_e114_34, ab_e114_35, ab_e114_38, ab_e114_39, ab_e114_42, ab_e114_45, ab_e114_46, ab_e114_49, ab_e114_50, ab_e114_53, ab_e114_56, ab_e114_57, ab_e114_58, ab_e114_61, ab_e114_64, ab_e114_65, ab_e114_66, ab_e114_69, ab_e114_70, ab_e114_73, ab_e114_74, ab_e114_77, ab_e114_80, ab_e114_81, ab_e114_82, ab_e114_85, ab_br_t, ab_br_f, ab_re_v (ab_zz _), ab_re_n (ab_zz _)]
    · rw [a1 17 (by decide) (by decide), u17' 4 (by decide)]
    · refine ⟨by rw [a12]; omega, by rw [a12, a1 494 (by decide) (by decide)]; exact h494, fun k k0 k1 => ?_, by rw [a13, a1 17 (by decide) (by decide), u17]; exact u6⟩
      rw [a12] at k1
      omega

