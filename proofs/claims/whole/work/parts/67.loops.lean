/-! ===== the two loops over the commands ===== -/
theorem bb_y242g {K : ab_Kt} {D : Nat → Int → Int} {L : Nat → Int → Int64} {z : ab_Z} {c : Int → Int} {n p : Int} (hX : bb_X D c n) (h3 : D 494 3 = p) (p0 : 0 ≤ p) (pn : p < n) : ∃ D1, ab_cal K 242 [.ref 494] (ab_mk D L z) = some (.inl none, ab_mk D1 L z) ∧ (∀ i, i ≠ 494 → i ≠ 496 → D1 i = D i) ∧ D1 494 1 = D 494 1 ∧ D1 494 3 = bb_nx c n p ∧ D1 494 4 = c p ∧ ((bb_pr c n p).1 = 1 → bb_VN c n p (D1 496) (D1 494 7)) := by
  obtain ⟨k9, t9, N9, h1, h2⟩ := bb_y242 (K := K) (D := D) (L := L) (z := z) hX (q := D 494 2) (p := p) (l := D 494 4) (k := D 494 6) (t := D 494 7) (N := D 496) p0 (by omega)
  rw [if_pos pn] at h1
  refine ⟨bb_T D (D 494 2) (bb_nx c n p) (c p) k9 t9 N9, ?_, fun i a b => bb_Trow a b, bb_T1, bb_T3, bb_T4, ?_⟩
  · have e9 := bb_Tself (D := D)
    rw [h3] at e9
    rw [← h1]
    exact congrArg (fun x => ab_cal K 242 [.ref 494] (ab_mk x L z)) e9
  · rw [bb_T496, bb_T7]
    exact h2
theorem bb_y190g {K : ab_Kt} {D : Nat → Int → Int} {L : Nat → Int → Int64} {z : ab_Z} {c : Int → Int} {n : Int} (hX : bb_X D c n) : ∃ D1, ab_cal K 190 [.ref 494] (ab_mk D L z) = some (.inl (some (.int (ab_I (bb_fl c n 61 0 0).1))), ab_mk D1 L z) ∧ (∀ i, i ≠ 494 → i ≠ 496 → D1 i = D i) ∧ D1 494 1 = D 494 1 ∧ D1 494 2 = (bb_fl c n 61 0 0).2 := by
  obtain ⟨p9, l9, k9, t9, N9, h1⟩ := bb_y190 (K := K) (D := D) (L := L) (z := z) hX (D 494 2) (D 494 3) (D 494 4) (D 494 6) (D 494 7) (D 496)
  refine ⟨bb_T D (bb_fl c n 61 0 0).2 p9 l9 k9 t9 N9, ?_, fun i a b => bb_Trow a b, bb_T1, bb_T2⟩
  rw [← h1]
  exact congrArg (fun x => ab_cal K 190 [.ref 494] (ab_mk x L z)) bb_Tself
/-- what the commands leave alone -/
def bb_FX (D : Nat → Int → Int) (L : Nat → Int → Int64) (D' : Nat → Int → Int) (L' : Nat → Int → Int64) : Prop := (∀ i, (i < 18 ∨ 62 ≤ i) → i ≠ 494 → i ≠ 496 → D' i = D i) ∧ (∀ i, (i < 19 ∨ 62 ≤ i) → L' i = L i) ∧ D' 494 1 = D 494 1
theorem bb_l193n {K : ab_Kt} {z : ab_Z} {c : Int → Int} {n m : Int} (f : Nat) (p q a w : Int) (g : Int → Int) (D : Nat → Int → Int) (L : Nat → Int → Int64) (hX : bb_X D c n) (h3 : D 494 3 = p) (p0 : 0 ≤ p) (pn : p ≤ n) (qp : 3 * q ≤ p) (q0 : 0 ≤ q) (hf : 60 < p + f) (hfl : bb_fl c n f p q = (-1, m)) (hw : bb_WS w g) (hk : bb_KS D L 19 g) (hc : w + 1200 * (m - q) ≤ 50000000) (ha : bb_vr a) {r d i : Int} (h : bb_ex c n f p q g = .inl (r, d, i)) : ∃ D' L', ab_ev K 193 14 [some (.ref 18), some (.ref 494), some (.int (ab_I m)), some (.int (ab_I a)), some (.int (ab_I q))] [] (ab_mk D L z) = some (.inl (some (.int (ab_I (-1)))), ab_mk D' L' z) ∧ bb_FX D L D' L' ∧ D' 18 1 = r ∧ D' 18 2 = d ∧ D' 18 3 = i ∧ D' 18 4 = 0 ∧ ∃ g9, bb_WS (w + 1200 * (m - q)) g9 ∧ bb_KS D' L' 19 g9 := by
  cases f with
  | zero => have := hX.1; omega
  | succ f =>
    have hn := hX.1
    obtain ⟨m1, m2⟩ := bb_fl_m (by omega) (f + 1) p q p0 pn qp hf hfl
    obtain ⟨r1, r2, r3, r4⟩ := bb_pr_rg c n p pn
    obtain ⟨hp, hfc⟩ := bb_fl_c p0 pn hfl
    have hp2 := r4 hp
    have hc1 : w + 1200 ≤ 50000000 := by omega
    have ha2 : 0 ≤ a ∧ a < 1000000000 := ha
    obtain ⟨D1, e1, d1, d2, d3, d4, d5⟩ := bb_y242g (K := K) (L := L) (z := z) hX h3 p0 hp2.2
    obtain ⟨D2, hD2⟩ : ∃ D2, D2 = ab_u D1 18 4 q := ⟨_, rfl⟩
    have x2 : ∀ i, i ≠ 18 → D2 i = D1 i := fun i b => by rw [hD2]; exact ab_u_row b
    have x4 : D2 18 4 = q := by rw [hD2]; exact ab_u_eq
    have hk2 : bb_KS D2 L 19 g := bb_KS_fr hw (fun i b d => ⟨(x2 i (by omega)).trans (d1 i (by omega) (by omega)), rfl⟩) hk
    have hl2 : D2 494 4 = c p := by rw [x2 494 (by decide)]; exact d4
    have hN2 : bb_VN c n p (D2 496) (D2 494 7) := by rw [x2 496 (by decide), x2 494 (by decide)]; exact d5 hp
    rcases hsc : bb_sc g c n p with ⟨r9, d9⟩ | ⟨v9, g9⟩
    · rw [bb_ex_l hsc] at h
      obtain ⟨i1, i2⟩ := Prod.mk.inj (Sum.inl.inj h)
      obtain ⟨i2, i3⟩ := Prod.mk.inj i2
      subst i1 i2 i3
      have e2 := bb_y243n (K := K) (L := L) (z := z) hp hl2 hN2 hw hk2 hc1 hsc
      have y : ∀ i, i ≠ 18 → ab_u (bb_cref D2 r9 d9) 18 4 0 i = D1 i := fun i b => by
        unfold bb_cref
        rw [ab_u_row b, ab_u_row b, ab_u_row b, ab_u_row b, x2 i b]
      refine ⟨ab_u (bb_cref D2 r9 d9) 18 4 0, L, ?_, ⟨fun i b b2 b3 => (y i (by omega)).trans (d1 i b2 b3), fun i b => rfl, by rw [y 494 (by decide)]; exact d2⟩, ?_, ?_, ?_, ab_u_eq, g, bb_WS_mono (by omega) hc hw, bb_KS_fr hw (fun i b d => ⟨(y i (by omega)).trans (d1 i (by omega) (by omega)), rfl⟩) hk⟩
      · rw [ab_e193_14]
        by_cases hq : q + 1 < m
        · skip
          simp (discharger := first | assumption | exact True.intro | exact not_false | (refine ab_gK ?_; with_unfolding_all rfl) | exact ab_rgI (by omega) (by omega) | omega) only [e1, ← hD2, e2, ab_e193_0, ab_e193_1, ab_e193_4, ab_e193_5, ab_e193_6, ab_e193_7, ab_e193_8, ab_e193_11, ab_e193_12, ab_e193_16, ab_e193_17, ab_e193_20, ab_e193_21, ab_e193_22, ab_e193_25, ab_e193_26, ab_e193_29, ab_e193_30, ab_e193_32, ab_e193_35, ab_e193_36, ab_e193_37, ab_e193_40, ab_e193_41, ab_e193_44, ab_e193_47, ab_e193_48, ab_e193_49, ab_e193_52, ab_e193_53, ab_e193_54, ab_e193_57, ab_e193_58, ab_e193_61, ab_e193_62, ab_br_t, ab_br_f, ab_re_v (ab_zz _), ab_re_n (ab_zz _)]
          rw [ab_e193_14]
          simp (discharger := first | assumption | exact True.intro | exact not_false | (refine ab_gK ?_; with_unfolding_all rfl) | exact ab_rgI (by omega) (by omega) | omega) only [ab_e193_0, ab_e193_1, ab_e193_4, ab_e193_5, ab_e193_6, ab_e193_7, ab_e193_8, ab_e193_11, ab_e193_12, ab_e193_16, ab_e193_17, ab_e193_20, ab_e193_21, ab_e193_22, ab_e193_25, ab_e193_26, ab_e193_29, ab_e193_30, ab_e193_32, ab_e193_35, ab_e193_36, ab_e193_37, ab_e193_40, ab_e193_41, ab_e193_44, ab_e193_47, ab_e193_48, ab_e193_49, ab_e193_52, ab_e193_53, ab_e193_54, ab_e193_57, ab_e193_58, ab_e193_61, ab_e193_62, ab_br_t, ab_br_f, ab_re_v (ab_zz _), ab_re_n (ab_zz _)]
        · skip
          simp (discharger := first | assumption | exact True.intro | exact not_false | (refine ab_gK ?_; with_unfolding_all rfl) | exact ab_rgI (by omega) (by omega) | omega) only [e1, ← hD2, e2, ab_e193_0, ab_e193_1, ab_e193_4, ab_e193_5, ab_e193_6, ab_e193_7, ab_e193_8, ab_e193_11, ab_e193_12, ab_e193_16, ab_e193_17, ab_e193_20, ab_e193_21, ab_e193_22, ab_e193_25, ab_e193_26, ab_e193_29, ab_e193_30, ab_e193_32, ab_e193_35, ab_e193_36, ab_e193_37, ab_e193_40, ab_e193_41, ab_e193_44, ab_e193_47, ab_e193_48, ab_e193_49, ab_e193_52, ab_e193_53, ab_e193_54, ab_e193_57, ab_e193_58, ab_e193_61, ab_e193_62, ab_br_t, ab_br_f, ab_re_v (ab_zz _), ab_re_n (ab_zz _)]
          rw [ab_e193_14]
          simp (discharger := first | assumption | exact True.intro | exact not_false | (refine ab_gK ?_; with_unfolding_all rfl) | exact ab_rgI (by omega) (by omega) | omega) only [ab_e193_0, ab_e193_1, ab_e193_4, ab_e193_5, ab_e193_6, ab_e193_7, ab_e193_8, ab_e193_11, ab_e193_12, ab_e193_16, ab_e193_17, ab_e193_20, ab_e193_21, ab_e193_22, ab_e193_25, ab_e193_26, ab_e193_29, ab_e193_30, ab_e193_32, ab_e193_35, ab_e193_36, ab_e193_37, ab_e193_40, ab_e193_41, ab_e193_44, ab_e193_47, ab_e193_48, ab_e193_49, ab_e193_52, ab_e193_53, ab_e193_54, ab_e193_57, ab_e193_58, ab_e193_61, ab_e193_62, ab_br_t, ab_br_f, ab_re_v (ab_zz _), ab_re_n (ab_zz _)]
      · unfold bb_cref
        rw [ab_u_ne (.inr (by decide)), ab_u_ne (.inr (by decide)), ab_u_ne (.inr (by decide)), ab_u_eq]
      · unfold bb_cref
        rw [ab_u_ne (.inr (by decide)), ab_u_ne (.inr (by decide)), ab_u_eq]
      · unfold bb_cref
        rw [ab_u_ne (.inr (by decide)), ab_u_eq, x4]
    · rw [bb_ex_r hsc] at h
      rcases hfc with ⟨hn2, hm⟩ | ⟨hn2, hfl2⟩
      · rw [if_neg hn2] at h
        exact absurd h Sum.inr_ne_inl
      · rw [if_pos hn2] at h
        obtain ⟨D3, L3, e2, k1, k2⟩ := bb_y243k (K := K) (L := L) (z := z) hp hl2 hN2 hw hk2 hc1 hsc
        have hv := bb_sc_v hp hw hc1 hsc
        have hw9 := bb_sc_W hp hw hc1 hsc
        have y : ∀ i, (i < 18 ∨ 62 ≤ i) → D3 i = D1 i := fun i b => (k2 i (by omega)).1.trans (x2 i (by omega))
        have hX3 : bb_X D3 c n := by
          obtain ⟨q1, q2, q3⟩ := hX
          refine ⟨q1, by rw [y 494 (by omega), d2]; exact q2, fun j j0 j1 => ?_⟩
          rw [y 495 (by omega), d1 495 (by decide) (by decide)]
          exact q3 j j0 j1
        have h33 : D3 494 3 = (bb_pr c n p).2 + 1 := by
          rw [y 494 (by omega), d3]
          exact if_pos hn2
        obtain ⟨D', L', i1, ⟨i2, i3, i7⟩, i4, i5, i6, i8, g8, i9, i10⟩ := bb_l193n (K := K) (z := z) f _ (q + 1) v9 (w + 1200) g9 D3 L3 hX3 h33 (by omega) (by omega) (by omega) (by omega) (by omega) hfl2 hw9 k1 (by omega) hv h
        refine ⟨D', L', ?_, ⟨fun i b b2 b3 => ((i2 i b b2 b3).trans (y i b)).trans (d1 i b2 b3), fun i b => (i3 i b).trans (k2 i b).2, by rw [i7, y 494 (by omega)]; exact d2⟩, i4, i5, i6, i8, g8, bb_WS_mono (by omega) hc i9, i10⟩
        refine ab_e193_14.trans ?_
        rw [← i1]
        simp (discharger := first | assumption | exact True.intro | exact not_false | (refine ab_gK ?_; with_unfolding_all rfl) | exact ab_rgI (by omega) (by omega) | omega) only [e1, ← hD2, e2, ab_e193_0, ab_e193_1, ab_e193_4, ab_e193_5, ab_e193_6, ab_e193_7, ab_e193_8, ab_e193_11, ab_e193_12, ab_e193_16, ab_e193_17, ab_e193_20, ab_e193_21, ab_e193_22, ab_e193_25, ab_e193_26, ab_e193_29, ab_e193_30, ab_e193_32, ab_e193_35, ab_e193_36, ab_e193_37, ab_e193_40, ab_e193_41, ab_e193_44, ab_e193_47, ab_e193_48, ab_e193_49, ab_e193_52, ab_e193_53, ab_e193_54, ab_e193_57, ab_e193_58, ab_e193_61, ab_e193_62, ab_br_t, ab_br_f, ab_re_v (ab_zz _), ab_re_n (ab_zz _)]

theorem bb_l193k {K : ab_Kt} {z : ab_Z} {c : Int → Int} {n m : Int} (f : Nat) (p q a w : Int) (g : Int → Int) (D : Nat → Int → Int) (L : Nat → Int → Int64) (hX : bb_X D c n) (h3 : D 494 3 = p) (p0 : 0 ≤ p) (pn : p ≤ n) (qp : 3 * q ≤ p) (q0 : 0 ≤ q) (hf : 60 < p + f) (hfl : bb_fl c n f p q = (-1, m)) (hw : bb_WS w g) (hk : bb_KS D L 19 g) (hc : w + 1200 * (m - q) ≤ 50000000) (ha : bb_vr a) {g' : Int → Int} (h : bb_ex c n f p q g = .inr g') : ∃ D' L', ab_ev K 193 14 [some (.ref 18), some (.ref 494), some (.int (ab_I m)), some (.int (ab_I a)), some (.int (ab_I q))] [] (ab_mk D L z) = some (.inl (some (.int (ab_I m))), ab_mk D' L' z) ∧ bb_FX D L D' L' ∧ bb_KS D' L' 19 g' ∧ (∀ k, k ≠ 4 → D' 18 k = D 18 k) ∧ D' 18 4 = 0 := by
  cases f with
  | zero => have := hX.1; omega
  | succ f =>
    have hn := hX.1
    obtain ⟨m1, m2⟩ := bb_fl_m (by omega) (f + 1) p q p0 pn qp hf hfl
    obtain ⟨r1, r2, r3, r4⟩ := bb_pr_rg c n p pn
    obtain ⟨hp, hfc⟩ := bb_fl_c p0 pn hfl
    have hp2 := r4 hp
    have hc1 : w + 1200 ≤ 50000000 := by omega
    have ha2 : 0 ≤ a ∧ a < 1000000000 := ha
    obtain ⟨D1, e1, d1, d2, d3, d4, d5⟩ := bb_y242g (K := K) (L := L) (z := z) hX h3 p0 hp2.2
    obtain ⟨D2, hD2⟩ : ∃ D2, D2 = ab_u D1 18 4 q := ⟨_, rfl⟩
    have x2 : ∀ i, i ≠ 18 → D2 i = D1 i := fun i b => by rw [hD2]; exact ab_u_row b
    have x4 : D2 18 4 = q := by rw [hD2]; exact ab_u_eq
    have hk2 : bb_KS D2 L 19 g := bb_KS_fr hw (fun i b d => ⟨(x2 i (by omega)).trans (d1 i (by omega) (by omega)), rfl⟩) hk
    have hl2 : D2 494 4 = c p := by rw [x2 494 (by decide)]; exact d4
    have hN2 : bb_VN c n p (D2 496) (D2 494 7) := by rw [x2 496 (by decide), x2 494 (by decide)]; exact d5 hp
    rcases hsc : bb_sc g c n p with ⟨r9, d9⟩ | ⟨v9, g9⟩
    · rw [bb_ex_l hsc] at h
      exact absurd h Sum.inl_ne_inr
    · rw [bb_ex_r hsc] at h
      obtain ⟨D3, L3, e2, k1, k2⟩ := bb_y243k (K := K) (L := L) (z := z) hp hl2 hN2 hw hk2 hc1 hsc
      have hv := bb_sc_v hp hw hc1 hsc
      have hv2 : 0 ≤ v9 ∧ v9 < 1000000000 := hv
      have hw9 := bb_sc_W hp hw hc1 hsc
      have y : ∀ i, (i < 18 ∨ 62 ≤ i) → D3 i = D1 i := fun i b => (k2 i (by omega)).1.trans (x2 i (by omega))
      have y18 : ∀ k, k ≠ 4 → D3 18 k = D 18 k := fun k b => by
        rw [(k2 18 (by omega)).1, hD2, ab_u_ne (.inr b), d1 18 (by decide) (by decide)]
      rcases hfc with ⟨hn2, hm⟩ | ⟨hn2, hfl2⟩
      · rw [if_neg hn2] at h
        have hg := Sum.inr.inj h
        subst hg
        have yy : ∀ i, i ≠ 18 → ab_u D3 18 4 0 i = D3 i := fun i b => ab_u_row b
        refine ⟨ab_u D3 18 4 0, L3, ?_, ⟨fun i b b2 b3 => ((yy i (by omega)).trans (y i b)).trans (d1 i b2 b3), fun i b => (k2 i b).2, by rw [yy 494 (by decide), y 494 (by omega)]; exact d2⟩, bb_KS_fr hw9 (fun i b d => ⟨yy i (by omega), rfl⟩) k1, fun k b => (ab_u_ne (.inr b)).trans (y18 k b), ab_u_eq⟩
        rw [ab_e193_14]
        simp (discharger := first | assumption | exact True.intro | exact not_false | (refine ab_gK ?_; with_unfolding_all rfl) | exact ab_rgI (by omega) (by omega) | omega) only [e1, ← hD2, e2, ab_e193_0, ab_e193_1, ab_e193_4, ab_e193_5, ab_e193_6, ab_e193_7, ab_e193_8, ab_e193_11, ab_e193_12, ab_e193_16, ab_e193_17, ab_e193_20, ab_e193_21, ab_e193_22, ab_e193_25, ab_e193_26, ab_e193_29, ab_e193_30, ab_e193_32, ab_e193_35, ab_e193_36, ab_e193_37, ab_e193_40, ab_e193_41, ab_e193_44, ab_e193_47, ab_e193_48, ab_e193_49, ab_e193_52, ab_e193_53, ab_e193_54, ab_e193_57, ab_e193_58, ab_e193_61, ab_e193_62, ab_br_t, ab_br_f, ab_re_v (ab_zz _), ab_re_n (ab_zz _)]
        rw [ab_e193_14]
        simp (discharger := first | assumption | exact True.intro | exact not_false | (refine ab_gK ?_; with_unfolding_all rfl) | exact ab_rgI (by omega) (by omega) | omega) only [ab_e193_0, ab_e193_1, ab_e193_4, ab_e193_5, ab_e193_6, ab_e193_7, ab_e193_8, ab_e193_11, ab_e193_12, ab_e193_16, ab_e193_17, ab_e193_20, ab_e193_21, ab_e193_22, ab_e193_25, ab_e193_26, ab_e193_29, ab_e193_30, ab_e193_32, ab_e193_35, ab_e193_36, ab_e193_37, ab_e193_40, ab_e193_41, ab_e193_44, ab_e193_47, ab_e193_48, ab_e193_49, ab_e193_52, ab_e193_53, ab_e193_54, ab_e193_57, ab_e193_58, ab_e193_61, ab_e193_62, ab_br_t, ab_br_f, ab_re_v (ab_zz _), ab_re_n (ab_zz _)]
      · rw [if_pos hn2] at h
        have hX3 : bb_X D3 c n := by
          obtain ⟨q1, q2, q3⟩ := hX
          refine ⟨q1, by rw [y 494 (by omega), d2]; exact q2, fun j j0 j1 => ?_⟩
          rw [y 495 (by omega), d1 495 (by decide) (by decide)]
          exact q3 j j0 j1
        have h33 : D3 494 3 = (bb_pr c n p).2 + 1 := by
          rw [y 494 (by omega), d3]
          exact if_pos hn2
        obtain ⟨D', L', i1, ⟨i2, i3, i7⟩, i4, i5, i6⟩ := bb_l193k (K := K) (z := z) f _ (q + 1) v9 (w + 1200) g9 D3 L3 hX3 h33 (by omega) (by omega) (by omega) (by omega) (by omega) hfl2 hw9 k1 (by omega) hv h
        refine ⟨D', L', ?_, ⟨fun i b b2 b3 => ((i2 i b b2 b3).trans (y i b)).trans (d1 i b2 b3), fun i b => (i3 i b).trans (k2 i b).2, by rw [i7, y 494 (by omega)]; exact d2⟩, i4, fun k b => (i5 k b).trans (y18 k b), i6⟩
        refine ab_e193_14.trans ?_
        rw [← i1]
        simp (discharger := first | assumption | exact True.intro | exact not_false | (refine ab_gK ?_; with_unfolding_all rfl) | exact ab_rgI (by omega) (by omega) | omega) only [e1, ← hD2, e2, ab_e193_0, ab_e193_1, ab_e193_4, ab_e193_5, ab_e193_6, ab_e193_7, ab_e193_8, ab_e193_11, ab_e193_12, ab_e193_16, ab_e193_17, ab_e193_20, ab_e193_21, ab_e193_22, ab_e193_25, ab_e193_26, ab_e193_29, ab_e193_30, ab_e193_32, ab_e193_35, ab_e193_36, ab_e193_37, ab_e193_40, ab_e193_41, ab_e193_44, ab_e193_47, ab_e193_48, ab_e193_49, ab_e193_52, ab_e193_53, ab_e193_54, ab_e193_57, ab_e193_58, ab_e193_61, ab_e193_62, ab_br_t, ab_br_f, ab_re_v (ab_zz _), ab_re_n (ab_zz _)]

theorem bb_y193n {K : ab_Kt} {D : Nat → Int → Int} {L : Nat → Int → Int64} {z : ab_Z} {c : Int → Int} {n m w : Int} {g : Int → Int} (hX : bb_X D c n) (h2 : D 494 2 = m) (hfl : bb_fl c n 61 0 0 = (-1, m)) (hw : bb_WS w g) (hk : bb_KS D L 19 g) (hc : w + 24000 ≤ 50000000) {r d i : Int} (h : bb_ex c n 61 0 0 g = .inl (r, d, i)) : ∃ D' L', ab_cal K 193 [.ref 18, .ref 494] (ab_mk D L z) = some (.inl (some (.int (ab_I (-1)))), ab_mk D' L' z) ∧ bb_FX D L D' L' ∧ D' 18 1 = r ∧ D' 18 2 = d ∧ D' 18 3 = i ∧ D' 18 4 = 0 ∧ ∃ g9, bb_WS (w + 24000) g9 ∧ bb_KS D' L' 19 g9 := by
  obtain ⟨m1, m2⟩ := bb_fl_m hX.1.2 61 0 0 (Int.le_refl _) hX.1.1 (by omega) (by omega) hfl
  have y39 : ab_cal K 239 [.ref 494] (ab_mk D L z) = some (.inl none, ab_mk (ab_u D 494 3 0) L z) := by
    simp (discharger := first | assumption | exact True.intro | exact not_false | (refine ab_gK ?_; with_unfolding_all rfl) | exact ab_rgI (by omega) (by omega) | omega) only [ab_a239, ab_e239_0, ab_e239_1, ab_e239_2, ab_e239_5, ab_br_t, ab_br_f, ab_re_v (ab_zz _), ab_re_n (ab_zz _)]
  have x : ∀ i, i ≠ 494 → ab_u D 494 3 0 i = D i := fun i b => ab_u_row b
  have x1 : ab_u D 494 3 0 494 1 = D 494 1 := ab_u_ne (.inr (by decide))
  have hX2 : bb_X (ab_u D 494 3 0) c n := by
    obtain ⟨q1, q2, q3⟩ := hX
    exact ⟨q1, x1.trans q2, fun j j0 j1 => by rw [x 495 (by decide)]; exact q3 j j0 j1⟩
  obtain ⟨D', L', i1, ⟨i2, i3, i7⟩, i4, i5, i6, i8, g8, i9, i10⟩ := bb_l193n (K := K) (z := z) 61 0 0 m w g (ab_u D 494 3 0) L hX2 ab_u_eq (Int.le_refl _) hX.1.1 (by omega) (Int.le_refl _) (by omega) hfl hw (bb_KS_fr hw (fun i b d => ⟨x i (by omega), rfl⟩) hk) (by omega) ⟨by omega, by omega⟩ h
  refine ⟨D', L', ?_, ⟨fun i b b2 b3 => (i2 i b b2 b3).trans (x i b2), i3, i7.trans x1⟩, i4, i5, i6, i8, g8, bb_WS_mono (by omega) hc i9, i10⟩
  rw [← i1]
  simp (discharger := first | assumption | exact True.intro | exact not_false | (refine ab_gK ?_; with_unfolding_all rfl) | exact ab_rgI (by omega) (by omega) | omega) only [ab_a193, h2, y39, ab_e193_0, ab_e193_1, ab_e193_4, ab_e193_5, ab_e193_6, ab_e193_7, ab_e193_8, ab_e193_11, ab_e193_12, ab_e193_16, ab_e193_17, ab_e193_20, ab_e193_21, ab_e193_22, ab_e193_25, ab_e193_26, ab_e193_29, ab_e193_30, ab_e193_32, ab_e193_35, ab_e193_36, ab_e193_37, ab_e193_40, ab_e193_41, ab_e193_44, ab_e193_47, ab_e193_48, ab_e193_49, ab_e193_52, ab_e193_53, ab_e193_54, ab_e193_57, ab_e193_58, ab_e193_61, ab_e193_62, ab_br_t, ab_br_f, ab_re_v (ab_zz _), ab_re_n (ab_zz _)]

theorem bb_y193k {K : ab_Kt} {D : Nat → Int → Int} {L : Nat → Int → Int64} {z : ab_Z} {c : Int → Int} {n m w : Int} {g : Int → Int} (hX : bb_X D c n) (h2 : D 494 2 = m) (hfl : bb_fl c n 61 0 0 = (-1, m)) (hw : bb_WS w g) (hk : bb_KS D L 19 g) (hc : w + 24000 ≤ 50000000) {g' : Int → Int} (h : bb_ex c n 61 0 0 g = .inr g') : ∃ D' L', ab_cal K 193 [.ref 18, .ref 494] (ab_mk D L z) = some (.inl (some (.int (ab_I m))), ab_mk D' L' z) ∧ bb_FX D L D' L' ∧ bb_KS D' L' 19 g' ∧ (∀ k, k ≠ 4 → D' 18 k = D 18 k) ∧ D' 18 4 = 0 := by
  obtain ⟨m1, m2⟩ := bb_fl_m hX.1.2 61 0 0 (Int.le_refl _) hX.1.1 (by omega) (by omega) hfl
  have y39 : ab_cal K 239 [.ref 494] (ab_mk D L z) = some (.inl none, ab_mk (ab_u D 494 3 0) L z) := by
    simp (discharger := first | assumption | exact True.intro | exact not_false | (refine ab_gK ?_; with_unfolding_all rfl) | exact ab_rgI (by omega) (by omega) | omega) only [ab_a239, ab_e239_0, ab_e239_1, ab_e239_2, ab_e239_5, ab_br_t, ab_br_f, ab_re_v (ab_zz _), ab_re_n (ab_zz _)]
  have x : ∀ i, i ≠ 494 → ab_u D 494 3 0 i = D i := fun i b => ab_u_row b
  have x1 : ab_u D 494 3 0 494 1 = D 494 1 := ab_u_ne (.inr (by decide))
  have hX2 : bb_X (ab_u D 494 3 0) c n := by
    obtain ⟨q1, q2, q3⟩ := hX
    exact ⟨q1, x1.trans q2, fun j j0 j1 => by rw [x 495 (by decide)]; exact q3 j j0 j1⟩
  obtain ⟨D', L', i1, ⟨i2, i3, i7⟩, i4, i5, i6⟩ := bb_l193k (K := K) (z := z) 61 0 0 m w g (ab_u D 494 3 0) L hX2 ab_u_eq (Int.le_refl _) hX.1.1 (by omega) (Int.le_refl _) (by omega) hfl hw (bb_KS_fr hw (fun i b d => ⟨x i (by omega), rfl⟩) hk) (by omega) ⟨by omega, by omega⟩ h
  refine ⟨D', L', ?_, ⟨fun i b b2 b3 => (i2 i b b2 b3).trans (x i b2), i3, i7.trans x1⟩, i4, fun k b => (i5 k b).trans (by rw [x 18 (by decide)]), i6⟩
  rw [← i1]
  simp (discharger := first | assumption | exact True.intro | exact not_false | (refine ab_gK ?_; with_unfolding_all rfl) | exact ab_rgI (by omega) (by omega) | omega) only [ab_a193, h2, y39, ab_e193_0, ab_e193_1, ab_e193_4, ab_e193_5, ab_e193_6, ab_e193_7, ab_e193_8, ab_e193_11, ab_e193_12, ab_e193_16, ab_e193_17, ab_e193_20, ab_e193_21, ab_e193_22, ab_e193_25, ab_e193_26, ab_e193_29, ab_e193_30, ab_e193_32, ab_e193_35, ab_e193_36, ab_e193_37, ab_e193_40, ab_e193_41, ab_e193_44, ab_e193_47, ab_e193_48, ab_e193_49, ab_e193_52, ab_e193_53, ab_e193_54, ab_e193_57, ab_e193_58, ab_e193_61, ab_e193_62, ab_br_t, ab_br_f, ab_re_v (ab_zz _), ab_re_n (ab_zz _)]

