/-! ===== the calls that change something ===== -/
section
variable {c : Int} {g : Int → Int} {r d : Int}
theorem bb_r_book {p q : Int} (h : bb_sp_book g p q = .inl (r, d)) : 1 ≤ r ∧ r ≤ 15 := by
  unfold bb_sp_book at h
  repeat' (split at h)
  all_goals first | exact absurd h Sum.inr_ne_inl | (have h9 := (Prod.mk.inj (Sum.inl.inj h)).1; omega)
theorem bb_r_gather {b f fo t : Int} (h : bb_sp_gather g b f fo t = .inl (r, d)) : 1 ≤ r ∧ r ≤ 15 := by
  unfold bb_sp_gather at h
  split at h
  · rename_i x hh
    cases h
    have h1 := bb_held_s hh
    rcases h1 with h1 | h1
    · have h2 := bb_at_s h1
      omega
    · omega
  · repeat' (split at h)
    all_goals first | exact absurd h Sum.inr_ne_inl | (have h9 := (Prod.mk.inj (Sum.inl.inj h)).1; omega)
theorem bb_r_move {b p t : Int} (h : bb_sp_move g b p t = .inl (r, d)) : 1 ≤ r ∧ r ≤ 15 := by
  unfold bb_sp_move at h
  split at h
  · rename_i x hh
    cases h
    have h1 := bb_held_s hh
    rcases h1 with h1 | h1
    · have h2 := bb_at_s h1
      omega
    · omega
  · repeat' (split at h)
    all_goals first | exact absurd h Sum.inr_ne_inl | (have h9 := (Prod.mk.inj (Sum.inl.inj h)).1; omega)
theorem bb_r_drop {b p : Int} (h : bb_sp_drop g b p = .inl (r, d)) : 1 ≤ r ∧ r ≤ 15 := by
  unfold bb_sp_drop at h
  split at h
  · rename_i x hh
    cases h
    have h1 := bb_held_s hh
    rcases h1 with h1 | h1
    · have h2 := bb_at_s h1
      omega
    · omega
  · repeat' (split at h)
    all_goals first | exact absurd h Sum.inr_ne_inl | (have h9 := (Prod.mk.inj (Sum.inl.inj h)).1; omega)
theorem bb_r_spool {l : Int} (h : bb_sp_spool g l = .inl (r, d)) : 1 ≤ r ∧ r ≤ 15 := by
  unfold bb_sp_spool at h
  repeat' (split at h)
  all_goals first | exact absurd h Sum.inr_ne_inl | (have h9 := (Prod.mk.inj (Sum.inl.inj h)).1; omega)
theorem bb_r_sew {b : Int} (h : bb_sp_sew g b = .inl (r, d)) : 1 ≤ r ∧ r ≤ 15 := by
  unfold bb_sp_sew at h
  split at h
  · rename_i x hh
    cases h
    have h2 := bb_at_s hh
    omega
  · repeat' (split at h)
    all_goals first | exact absurd h Sum.inr_ne_inl | (have h9 := (Prod.mk.inj (Sum.inl.inj h)).1; omega)
theorem bb_r_unpick {b : Int} (h : bb_sp_unpick g b = .inl (r, d)) : 1 ≤ r ∧ r ≤ 15 := by
  unfold bb_sp_unpick at h
  split at h
  · rename_i x hh
    cases h
    have h2 := bb_at_s hh
    omega
  · repeat' (split at h)
    all_goals first | exact absurd h Sum.inr_ne_inl | (have h9 := (Prod.mk.inj (Sum.inl.inj h)).1; omega)
theorem bb_r_glue {b q : Int} (h : bb_sp_glue g b q = .inl (r, d)) : 1 ≤ r ∧ r ≤ 15 := by
  unfold bb_sp_glue at h
  split at h
  · have h9 := (Prod.mk.inj (Sum.inl.inj h)).1
    omega
  · split at h
    · have h9 := (Prod.mk.inj (Sum.inl.inj h)).1
      omega
    · split at h
      · rename_i x hh
        cases h
        have h2 := bb_at_s hh
        omega
      · repeat' (split at h)
        all_goals first | exact absurd h Sum.inr_ne_inl | (have h9 := (Prod.mk.inj (Sum.inl.inj h)).1; omega)
theorem bb_r_press {b p : Int} (h : bb_sp_press g b p = .inl (r, d)) : 1 ≤ r ∧ r ≤ 15 := by
  unfold bb_sp_press at h
  split at h
  · have h9 := (Prod.mk.inj (Sum.inl.inj h)).1
    omega
  · split at h
    · have h9 := (Prod.mk.inj (Sum.inl.inj h)).1
      omega
    · split at h
      · rename_i x hh
        cases h
        have h2 := bb_at_s hh
        omega
      · repeat' (split at h)
        all_goals first | exact absurd h Sum.inr_ne_inl | (have h9 := (Prod.mk.inj (Sum.inl.inj h)).1; omega)
theorem bb_r_lift {p : Int} (h : bb_sp_lift g p = .inl (r, d)) : 1 ≤ r ∧ r ≤ 15 := by
  unfold bb_sp_lift at h
  repeat' (split at h)
  all_goals first | exact absurd h Sum.inr_ne_inl | (have h9 := (Prod.mk.inj (Sum.inl.inj h)).1; omega)
theorem bb_r_slip {b p : Int} (h : bb_sp_slip g b p = .inl (r, d)) : 1 ≤ r ∧ r ≤ 15 := by
  unfold bb_sp_slip at h
  split at h
  · rename_i x hh
    cases h
    have h2 := bb_at_s hh
    omega
  · repeat' (split at h)
    all_goals first | exact absurd h Sum.inr_ne_inl | (have h9 := (Prod.mk.inj (Sum.inl.inj h)).1; omega)
theorem bb_r_deliver {b : Int} (h : bb_sp_deliver g b = .inl (r, d)) : 1 ≤ r ∧ r ≤ 15 := by
  unfold bb_sp_deliver at h
  split at h
  · rename_i x hh
    cases h
    have h2 := bb_at_s hh
    omega
  · repeat' (split at h)
    all_goals first | exact absurd h Sum.inr_ne_inl | (have h9 := (Prod.mk.inj (Sum.inl.inj h)).1; omega)
theorem bb_r_pass {m : Int} (h : bb_sp_pass g m = .inl (r, d)) : 1 ≤ r ∧ r ≤ 15 := by
  unfold bb_sp_pass at h
  repeat' (split at h)
  all_goals first | exact absurd h Sum.inr_ne_inl | (have h9 := (Prod.mk.inj (Sum.inl.inj h)).1; omega)
end
theorem bb_op84 {K : ab_Kt} {D : Nat → Int → Int} {L : Nat → Int → Int64} {z : ab_Z} {n : Int} (hn : n < 512) (h : bb_INV n D L z) {p q : Int} (hp9 : ab_rg p) (hq9 : ab_rg q) : bb_OP K n D L z 84 [.ref 17, .int (ab_I p), .int (ab_I q), .ref 508] 85 [.ref 500, .int (ab_I p), .int (ab_I q)] := by
  have hI := h
  obtain ⟨n1, ⟨w1, w2, w3⟩, -, -, h6, -, -, -⟩ := hI
  have n9 : 0 ≤ n ∧ n < 512 := ⟨n1.1, hn⟩
  have cm := bb_cc_mono n9
  have hsp := ab_sp0
  obtain ⟨D1, L1, a1, a2, a3, a4⟩ := bb_y192 (K := K) (z := z) w1 w3 w2
  have d501 : D1 501 = D 501 := (a4 501 (by omega)).1
  have d500 : D1 500 = D 500 := (a4 500 (by omega)).1
  rcases hsp9 : bb_sp_book (D 501) p q with ⟨r, d⟩ | ⟨v, g'⟩
  · have e2 := bb_cno228 (K := K) (z := z) w1 a2.1 hp9 hq9 hsp9
    have e3 := bb_y195t (K := K) (D := bb_cref D1 r d) (L := L1) (z := z)
    obtain ⟨i1, i2⟩ := bb_INV_no hn h (bb_r_book hsp9) a2 a4
    have hrow : bb_cref D1 r d 501 = D 501 := by
      unfold bb_cref
      rw [ab_u_row (by decide), ab_u_row (by decide), ab_u_row (by decide), d501]
    have e4 := bb_no85 (K := K) (D := bb_cref D1 r d) (L := L1) (z := ab_zc (ab_zx z)) (c := bb_cc n) (by rw [hrow]; exact w1) hp9 hq9 (by rw [hrow]; exact hsp9)
    refine ⟨bb_cref D1 r d, L1, ab_zc (ab_zx z), bb_ref (bb_cref D1 r d) r d, 1, 0, ?_, e4, by omega, i2, fun x => absurd x (by omega), i1, Nat.le_succ _, Nat.le_add_right _ 6⟩
    simp (discharger := first | assumption | exact True.intro | exact not_false | (refine ab_gK ?_; with_unfolding_all rfl) | exact ab_rgI (by omega) (by omega) | omega) only [ab_a84, ab_a172, a1, e2, e3, ab_re_t (M := 172) (pc := 21) (E := "java/lang/UnsupportedOperationException") (by rfl) (ab_zzx _), ab_re_h (M := 84) (pc := 5) (E := "java/lang/UnsupportedOperationException") (ph := 13) (by rfl) (ab_zzx _), ab_e84_0, ab_e84_1, ab_e84_2, ab_e84_3, ab_e84_4, ab_e84_5, ab_e84_8, ab_e84_9, ab_e84_10, ab_e84_13, ab_e84_15, ab_e84_16, ab_e84_17, ab_e84_18, ab_e172_0, ab_e172_1, ab_e172_4, ab_e172_5, ab_e172_8, ab_e172_11, ab_e172_12, ab_e172_13, ab_e172_16, ab_e172_17, ab_e172_18, ab_e172_21, ab_e172_24, ab_br_t, ab_br_f, ab_re_v (ab_zz _), ab_re_n (ab_zz _)]
  · obtain ⟨D2, L2, e2, f1, f2⟩ := bb_cok228 (K := K) (z := z) w1 a2.1 hp9 hq9 hsp9
    have hv := bb_v_book w1 hsp9
    have hw' := bb_W_book w1 cm.2.2.2 hsp9
    have e62 : D2 62 = D1 62 := (f2 62 (by omega)).1
    have s62 := bb_sI_e (D1 62 1)
    obtain ⟨-, n2, n3, n4, n5⟩ := id a2
    have hn0 : bb_KS D2 L2 (ab_sI (D2 62 1)) (D 501) := by
      rw [e62]
      exact bb_KS_fr w1 (fun i x y => f2 i (by omega)) a3
    have hC2 : bb_CH D2 L2 g' (bb_Fk D) (D 500 5) := by
      refine ⟨f1, by rw [e62]; exact n2, by rw [e62]; exact n3, n4, fun j j0 j1 => ?_⟩
      rw [e62]
      have sj := bb_sI_e ((D1 62 1 - D 500 5 + j) % 9)
      exact bb_KS_fr (w3 j j0 j1) (fun i x y => f2 i (by omega)) (n5 j j0 j1)
    obtain ⟨D3, e3, k1, k2⟩ := bb_y195 (K := K) (z := z) hw' (bb_WS_mono (by omega) cm.2.2.2 w1) (fun j j0 j1 => bb_WS_mono (by omega) cm.2.2.2 (w3 j j0 j1)) hC2 hn0 hv
    have hfr : ∀ i, (i < 19 ∨ 451 ≤ i) → D3 i = D i ∧ L2 i = L i := fun i hi => by
      refine ⟨?_, ?_⟩
      · rw [k2 i (by omega), (f2 i (by omega)).1, (a4 i (by omega)).1]
      · rw [(f2 i (by omega)).2, (a4 i (by omega)).2]
    obtain ⟨i1, i2⟩ := bb_INV_ok (x := (ab_I v).toInt64) hn h hw' k1 hfr
    have g501 : D3 501 = D 501 := (hfr 501 (by omega)).1
    have g500 : D3 500 = D 500 := (hfr 500 (by omega)).1
    have e4 := bb_ok85 (K := K) (D := D3) (L := ab_u L2 508 0 (ab_I v).toInt64) (z := z) (c := bb_cc n) (by rw [g501]; exact w1) ⟨by rw [g500]; exact w2.2.2.2.1, by rw [g500]; exact .inl h6⟩ hp9 hq9 (by rw [g501]; exact hsp9)
    refine ⟨D3, ab_u L2 508 0 (ab_I v).toInt64, z, bb_row (bb_keep D3 501) 501 g', 0, v, ?_, e4, by omega, i2, fun _ => ab_u_eq, i1, Nat.le_refl _, Nat.le_refl _⟩
    simp (discharger := first | assumption | exact True.intro | exact not_false | (refine ab_gK ?_; with_unfolding_all rfl) | exact ab_rgI (by omega) (by omega) | omega) only [ab_a84, ab_a172, a1, e2, e3, ab_e84_0, ab_e84_1, ab_e84_2, ab_e84_3, ab_e84_4, ab_e84_5, ab_e84_8, ab_e84_9, ab_e84_10, ab_e84_13, ab_e84_15, ab_e84_16, ab_e84_17, ab_e84_18, ab_e172_0, ab_e172_1, ab_e172_4, ab_e172_5, ab_e172_8, ab_e172_11, ab_e172_12, ab_e172_13, ab_e172_16, ab_e172_17, ab_e172_18, ab_e172_21, ab_e172_24, ab_br_t, ab_br_f, ab_re_v (ab_zz _), ab_re_n (ab_zz _)]

theorem bb_op82 {K : ab_Kt} {D : Nat → Int → Int} {L : Nat → Int → Int64} {z : ab_Z} {n : Int} (hn : n < 512) (h : bb_INV n D L z) {b f fo t : Int} (hb9 : ab_rg b) (hf9 : ab_rg f) (hfo9 : ab_rg fo) (ht9 : t = 0 ∨ t = 1) : bb_OP K n D L z 82 [.ref 17, .int (ab_I b), .int (ab_I f), .int (ab_I fo), .int (ab_I t), .ref 508] 83 [.ref 500, .int (ab_I b), .int (ab_I f), .int (ab_I fo), .int (ab_I t)] := by
  have hI := h
  obtain ⟨n1, ⟨w1, w2, w3⟩, -, -, h6, -, -, -⟩ := hI
  have n9 : 0 ≤ n ∧ n < 512 := ⟨n1.1, hn⟩
  have cm := bb_cc_mono n9
  have hsp := ab_sp0
  obtain ⟨D1, L1, a1, a2, a3, a4⟩ := bb_y192 (K := K) (z := z) w1 w3 w2
  have d501 : D1 501 = D 501 := (a4 501 (by omega)).1
  have d500 : D1 500 = D 500 := (a4 500 (by omega)).1
  rcases hsp9 : bb_sp_gather (D 501) b f fo t with ⟨r, d⟩ | ⟨v, g'⟩
  · have e2 := bb_cno227 (K := K) (z := z) w1 a2.1 hb9 hf9 hfo9 ht9 hsp9
    have e3 := bb_y195t (K := K) (D := bb_cref D1 r d) (L := L1) (z := z)
    obtain ⟨i1, i2⟩ := bb_INV_no hn h (bb_r_gather hsp9) a2 a4
    have hrow : bb_cref D1 r d 501 = D 501 := by
      unfold bb_cref
      rw [ab_u_row (by decide), ab_u_row (by decide), ab_u_row (by decide), d501]
    have e4 := bb_no83 (K := K) (D := bb_cref D1 r d) (L := L1) (z := ab_zc (ab_zx z)) (c := bb_cc n) (by rw [hrow]; exact w1) hb9 hf9 hfo9 ht9 (by rw [hrow]; exact hsp9)
    refine ⟨bb_cref D1 r d, L1, ab_zc (ab_zx z), bb_ref (bb_cref D1 r d) r d, 1, 0, ?_, e4, by omega, i2, fun x => absurd x (by omega), i1, Nat.le_succ _, Nat.le_add_right _ 6⟩
    simp (discharger := first | assumption | exact True.intro | exact not_false | (refine ab_gK ?_; with_unfolding_all rfl) | exact ab_rgI (by omega) (by omega) | omega) only [ab_a82, ab_a171, a1, e2, e3, ab_re_t (M := 171) (pc := 24) (E := "java/lang/UnsupportedOperationException") (by rfl) (ab_zzx _), ab_re_h (M := 82) (pc := 9) (E := "java/lang/UnsupportedOperationException") (ph := 17) (by rfl) (ab_zzx _), ab_e82_0, ab_e82_2, ab_e82_3, ab_e82_4, ab_e82_5, ab_e82_6, ab_e82_7, ab_e82_9, ab_e82_12, ab_e82_13, ab_e82_14, ab_e82_17, ab_e82_19, ab_e82_20, ab_e82_21, ab_e82_22, ab_e171_0, ab_e171_1, ab_e171_4, ab_e171_5, ab_e171_8, ab_e171_11, ab_e171_12, ab_e171_13, ab_e171_16, ab_e171_17, ab_e171_18, ab_e171_19, ab_e171_21, ab_e171_24, ab_e171_27, ab_br_t, ab_br_f, ab_re_v (ab_zz _), ab_re_n (ab_zz _)]
  · obtain ⟨D2, L2, e2, f1, f2⟩ := bb_cok227 (K := K) (z := z) w1 a2.1 hb9 hf9 hfo9 ht9 hsp9
    have hv := bb_v_gather w1 hsp9
    have hw' := bb_W_gather w1 cm.2.2.2 ht9 hsp9
    have e62 : D2 62 = D1 62 := (f2 62 (by omega)).1
    have s62 := bb_sI_e (D1 62 1)
    obtain ⟨-, n2, n3, n4, n5⟩ := id a2
    have hn0 : bb_KS D2 L2 (ab_sI (D2 62 1)) (D 501) := by
      rw [e62]
      exact bb_KS_fr w1 (fun i x y => f2 i (by omega)) a3
    have hC2 : bb_CH D2 L2 g' (bb_Fk D) (D 500 5) := by
      refine ⟨f1, by rw [e62]; exact n2, by rw [e62]; exact n3, n4, fun j j0 j1 => ?_⟩
      rw [e62]
      have sj := bb_sI_e ((D1 62 1 - D 500 5 + j) % 9)
      exact bb_KS_fr (w3 j j0 j1) (fun i x y => f2 i (by omega)) (n5 j j0 j1)
    obtain ⟨D3, e3, k1, k2⟩ := bb_y195 (K := K) (z := z) hw' (bb_WS_mono (by omega) cm.2.2.2 w1) (fun j j0 j1 => bb_WS_mono (by omega) cm.2.2.2 (w3 j j0 j1)) hC2 hn0 hv
    have hfr : ∀ i, (i < 19 ∨ 451 ≤ i) → D3 i = D i ∧ L2 i = L i := fun i hi => by
      refine ⟨?_, ?_⟩
      · rw [k2 i (by omega), (f2 i (by omega)).1, (a4 i (by omega)).1]
      · rw [(f2 i (by omega)).2, (a4 i (by omega)).2]
    obtain ⟨i1, i2⟩ := bb_INV_ok (x := (ab_I v).toInt64) hn h hw' k1 hfr
    have g501 : D3 501 = D 501 := (hfr 501 (by omega)).1
    have g500 : D3 500 = D 500 := (hfr 500 (by omega)).1
    have e4 := bb_ok83 (K := K) (D := D3) (L := ab_u L2 508 0 (ab_I v).toInt64) (z := z) (c := bb_cc n) (by rw [g501]; exact w1) ⟨by rw [g500]; exact w2.2.2.2.1, by rw [g500]; exact .inl h6⟩ hb9 hf9 hfo9 ht9 (by rw [g501]; exact hsp9)
    refine ⟨D3, ab_u L2 508 0 (ab_I v).toInt64, z, bb_row (bb_keep D3 501) 501 g', 0, v, ?_, e4, by omega, i2, fun _ => ab_u_eq, i1, Nat.le_refl _, Nat.le_refl _⟩
    simp (discharger := first | assumption | exact True.intro | exact not_false | (refine ab_gK ?_; with_unfolding_all rfl) | exact ab_rgI (by omega) (by omega) | omega) only [ab_a82, ab_a171, a1, e2, e3, ab_e82_0, ab_e82_2, ab_e82_3, ab_e82_4, ab_e82_5, ab_e82_6, ab_e82_7, ab_e82_9, ab_e82_12, ab_e82_13, ab_e82_14, ab_e82_17, ab_e82_19, ab_e82_20, ab_e82_21, ab_e82_22, ab_e171_0, ab_e171_1, ab_e171_4, ab_e171_5, ab_e171_8, ab_e171_11, ab_e171_12, ab_e171_13, ab_e171_16, ab_e171_17, ab_e171_18, ab_e171_19, ab_e171_21, ab_e171_24, ab_e171_27, ab_br_t, ab_br_f, ab_re_v (ab_zz _), ab_re_n (ab_zz _)]

theorem bb_op80 {K : ab_Kt} {D : Nat → Int → Int} {L : Nat → Int → Int64} {z : ab_Z} {n : Int} (hn : n < 512) (h : bb_INV n D L z) {b p t : Int} (hb9 : ab_rg b) (hp9 : ab_rg p) (ht9 : ab_rg t) : bb_OP K n D L z 80 [.ref 17, .int (ab_I b), .int (ab_I p), .int (ab_I t), .ref 508] 81 [.ref 500, .int (ab_I b), .int (ab_I p), .int (ab_I t)] := by
  have hI := h
  obtain ⟨n1, ⟨w1, w2, w3⟩, -, -, h6, -, -, -⟩ := hI
  have n9 : 0 ≤ n ∧ n < 512 := ⟨n1.1, hn⟩
  have cm := bb_cc_mono n9
  have hsp := ab_sp0
  obtain ⟨D1, L1, a1, a2, a3, a4⟩ := bb_y192 (K := K) (z := z) w1 w3 w2
  have d501 : D1 501 = D 501 := (a4 501 (by omega)).1
  have d500 : D1 500 = D 500 := (a4 500 (by omega)).1
  rcases hsp9 : bb_sp_move (D 501) b p t with ⟨r, d⟩ | ⟨v, g'⟩
  · have e2 := bb_cno226 (K := K) (z := z) w1 a2.1 hb9 hp9 ht9 hsp9
    have e3 := bb_y195t (K := K) (D := bb_cref D1 r d) (L := L1) (z := z)
    obtain ⟨i1, i2⟩ := bb_INV_no hn h (bb_r_move hsp9) a2 a4
    have hrow : bb_cref D1 r d 501 = D 501 := by
      unfold bb_cref
      rw [ab_u_row (by decide), ab_u_row (by decide), ab_u_row (by decide), d501]
    have e4 := bb_no81 (K := K) (D := bb_cref D1 r d) (L := L1) (z := ab_zc (ab_zx z)) (c := bb_cc n) (by rw [hrow]; exact w1) hb9 hp9 ht9 (by rw [hrow]; exact hsp9)
    refine ⟨bb_cref D1 r d, L1, ab_zc (ab_zx z), bb_ref (bb_cref D1 r d) r d, 1, 0, ?_, e4, by omega, i2, fun x => absurd x (by omega), i1, Nat.le_succ _, Nat.le_add_right _ 6⟩
    simp (discharger := first | assumption | exact True.intro | exact not_false | (refine ab_gK ?_; with_unfolding_all rfl) | exact ab_rgI (by omega) (by omega) | omega) only [ab_a80, ab_a170, a1, e2, e3, ab_re_t (M := 170) (pc := 22) (E := "java/lang/UnsupportedOperationException") (by rfl) (ab_zzx _), ab_re_h (M := 80) (pc := 7) (E := "java/lang/UnsupportedOperationException") (ph := 15) (by rfl) (ab_zzx _), ab_e80_0, ab_e80_2, ab_e80_3, ab_e80_4, ab_e80_5, ab_e80_6, ab_e80_7, ab_e80_10, ab_e80_11, ab_e80_12, ab_e80_15, ab_e80_17, ab_e80_18, ab_e80_19, ab_e80_20, ab_e170_0, ab_e170_1, ab_e170_4, ab_e170_5, ab_e170_8, ab_e170_11, ab_e170_12, ab_e170_13, ab_e170_16, ab_e170_17, ab_e170_18, ab_e170_19, ab_e170_22, ab_e170_25, ab_br_t, ab_br_f, ab_re_v (ab_zz _), ab_re_n (ab_zz _)]
  · obtain ⟨D2, L2, e2, f1, f2⟩ := bb_cok226 (K := K) (z := z) w1 a2.1 hb9 hp9 ht9 hsp9
    have hv := bb_v_move w1 hsp9
    have hw' := bb_W_move w1 cm.2.2.2 hsp9
    have e62 : D2 62 = D1 62 := (f2 62 (by omega)).1
    have s62 := bb_sI_e (D1 62 1)
    obtain ⟨-, n2, n3, n4, n5⟩ := id a2
    have hn0 : bb_KS D2 L2 (ab_sI (D2 62 1)) (D 501) := by
      rw [e62]
      exact bb_KS_fr w1 (fun i x y => f2 i (by omega)) a3
    have hC2 : bb_CH D2 L2 g' (bb_Fk D) (D 500 5) := by
      refine ⟨f1, by rw [e62]; exact n2, by rw [e62]; exact n3, n4, fun j j0 j1 => ?_⟩
      rw [e62]
      have sj := bb_sI_e ((D1 62 1 - D 500 5 + j) % 9)
      exact bb_KS_fr (w3 j j0 j1) (fun i x y => f2 i (by omega)) (n5 j j0 j1)
    obtain ⟨D3, e3, k1, k2⟩ := bb_y195 (K := K) (z := z) hw' (bb_WS_mono (by omega) cm.2.2.2 w1) (fun j j0 j1 => bb_WS_mono (by omega) cm.2.2.2 (w3 j j0 j1)) hC2 hn0 hv
    have hfr : ∀ i, (i < 19 ∨ 451 ≤ i) → D3 i = D i ∧ L2 i = L i := fun i hi => by
      refine ⟨?_, ?_⟩
      · rw [k2 i (by omega), (f2 i (by omega)).1, (a4 i (by omega)).1]
      · rw [(f2 i (by omega)).2, (a4 i (by omega)).2]
    obtain ⟨i1, i2⟩ := bb_INV_ok (x := (ab_I v).toInt64) hn h hw' k1 hfr
    have g501 : D3 501 = D 501 := (hfr 501 (by omega)).1
    have g500 : D3 500 = D 500 := (hfr 500 (by omega)).1
    have e4 := bb_ok81 (K := K) (D := D3) (L := ab_u L2 508 0 (ab_I v).toInt64) (z := z) (c := bb_cc n) (by rw [g501]; exact w1) ⟨by rw [g500]; exact w2.2.2.2.1, by rw [g500]; exact .inl h6⟩ hb9 hp9 ht9 (by rw [g501]; exact hsp9)
    refine ⟨D3, ab_u L2 508 0 (ab_I v).toInt64, z, bb_row (bb_keep D3 501) 501 g', 0, v, ?_, e4, by omega, i2, fun _ => ab_u_eq, i1, Nat.le_refl _, Nat.le_refl _⟩
    simp (discharger := first | assumption | exact True.intro | exact not_false | (refine ab_gK ?_; with_unfolding_all rfl) | exact ab_rgI (by omega) (by omega) | omega) only [ab_a80, ab_a170, a1, e2, e3, ab_e80_0, ab_e80_2, ab_e80_3, ab_e80_4, ab_e80_5, ab_e80_6, ab_e80_7, ab_e80_10, ab_e80_11, ab_e80_12, ab_e80_15, ab_e80_17, ab_e80_18, ab_e80_19, ab_e80_20, ab_e170_0, ab_e170_1, ab_e170_4, ab_e170_5, ab_e170_8, ab_e170_11, ab_e170_12, ab_e170_13, ab_e170_16, ab_e170_17, ab_e170_18, ab_e170_19, ab_e170_22, ab_e170_25, ab_br_t, ab_br_f, ab_re_v (ab_zz _), ab_re_n (ab_zz _)]

theorem bb_op78 {K : ab_Kt} {D : Nat → Int → Int} {L : Nat → Int → Int64} {z : ab_Z} {n : Int} (hn : n < 512) (h : bb_INV n D L z) {b p : Int} (hb9 : ab_rg b) (hp9 : ab_rg p) : bb_OP K n D L z 78 [.ref 17, .int (ab_I b), .int (ab_I p), .ref 508] 79 [.ref 500, .int (ab_I b), .int (ab_I p)] := by
  have hI := h
  obtain ⟨n1, ⟨w1, w2, w3⟩, -, -, h6, -, -, -⟩ := hI
  have n9 : 0 ≤ n ∧ n < 512 := ⟨n1.1, hn⟩
  have cm := bb_cc_mono n9
  have hsp := ab_sp0
  obtain ⟨D1, L1, a1, a2, a3, a4⟩ := bb_y192 (K := K) (z := z) w1 w3 w2
  have d501 : D1 501 = D 501 := (a4 501 (by omega)).1
  have d500 : D1 500 = D 500 := (a4 500 (by omega)).1
  rcases hsp9 : bb_sp_drop (D 501) b p with ⟨r, d⟩ | ⟨v, g'⟩
  · have e2 := bb_cno225 (K := K) (z := z) w1 a2.1 hb9 hp9 hsp9
    have e3 := bb_y195t (K := K) (D := bb_cref D1 r d) (L := L1) (z := z)
    obtain ⟨i1, i2⟩ := bb_INV_no hn h (bb_r_drop hsp9) a2 a4
    have hrow : bb_cref D1 r d 501 = D 501 := by
      unfold bb_cref
      rw [ab_u_row (by decide), ab_u_row (by decide), ab_u_row (by decide), d501]
    have e4 := bb_no79 (K := K) (D := bb_cref D1 r d) (L := L1) (z := ab_zc (ab_zx z)) (c := bb_cc n) (by rw [hrow]; exact w1) hb9 hp9 (by rw [hrow]; exact hsp9)
    refine ⟨bb_cref D1 r d, L1, ab_zc (ab_zx z), bb_ref (bb_cref D1 r d) r d, 1, 0, ?_, e4, by omega, i2, fun x => absurd x (by omega), i1, Nat.le_succ _, Nat.le_add_right _ 6⟩
    simp (discharger := first | assumption | exact True.intro | exact not_false | (refine ab_gK ?_; with_unfolding_all rfl) | exact ab_rgI (by omega) (by omega) | omega) only [ab_a78, ab_a166, a1, e2, e3, ab_re_t (M := 166) (pc := 21) (E := "java/lang/UnsupportedOperationException") (by rfl) (ab_zzx _), ab_re_h (M := 78) (pc := 5) (E := "java/lang/UnsupportedOperationException") (ph := 13) (by rfl) (ab_zzx _), ab_e78_0, ab_e78_1, ab_e78_2, ab_e78_3, ab_e78_4, ab_e78_5, ab_e78_8, ab_e78_9, ab_e78_10, ab_e78_13, ab_e78_15, ab_e78_16, ab_e78_17, ab_e78_18, ab_e166_0, ab_e166_1, ab_e166_4, ab_e166_5, ab_e166_8, ab_e166_11, ab_e166_12, ab_e166_13, ab_e166_16, ab_e166_17, ab_e166_18, ab_e166_21, ab_e166_24, ab_br_t, ab_br_f, ab_re_v (ab_zz _), ab_re_n (ab_zz _)]
  · obtain ⟨D2, L2, e2, f1, f2⟩ := bb_cok225 (K := K) (z := z) w1 a2.1 hb9 hp9 hsp9
    have hv := bb_v_drop w1 hsp9
    have hw' := bb_W_drop w1 cm.2.2.2 hsp9
    have e62 : D2 62 = D1 62 := (f2 62 (by omega)).1
    have s62 := bb_sI_e (D1 62 1)
    obtain ⟨-, n2, n3, n4, n5⟩ := id a2
    have hn0 : bb_KS D2 L2 (ab_sI (D2 62 1)) (D 501) := by
      rw [e62]
      exact bb_KS_fr w1 (fun i x y => f2 i (by omega)) a3
    have hC2 : bb_CH D2 L2 g' (bb_Fk D) (D 500 5) := by
      refine ⟨f1, by rw [e62]; exact n2, by rw [e62]; exact n3, n4, fun j j0 j1 => ?_⟩
      rw [e62]
      have sj := bb_sI_e ((D1 62 1 - D 500 5 + j) % 9)
      exact bb_KS_fr (w3 j j0 j1) (fun i x y => f2 i (by omega)) (n5 j j0 j1)
    obtain ⟨D3, e3, k1, k2⟩ := bb_y195 (K := K) (z := z) hw' (bb_WS_mono (by omega) cm.2.2.2 w1) (fun j j0 j1 => bb_WS_mono (by omega) cm.2.2.2 (w3 j j0 j1)) hC2 hn0 hv
    have hfr : ∀ i, (i < 19 ∨ 451 ≤ i) → D3 i = D i ∧ L2 i = L i := fun i hi => by
      refine ⟨?_, ?_⟩
      · rw [k2 i (by omega), (f2 i (by omega)).1, (a4 i (by omega)).1]
      · rw [(f2 i (by omega)).2, (a4 i (by omega)).2]
    obtain ⟨i1, i2⟩ := bb_INV_ok (x := (ab_I v).toInt64) hn h hw' k1 hfr
    have g501 : D3 501 = D 501 := (hfr 501 (by omega)).1
    have g500 : D3 500 = D 500 := (hfr 500 (by omega)).1
    have e4 := bb_ok79 (K := K) (D := D3) (L := ab_u L2 508 0 (ab_I v).toInt64) (z := z) (c := bb_cc n) (by rw [g501]; exact w1) ⟨by rw [g500]; exact w2.2.2.2.1, by rw [g500]; exact .inl h6⟩ hb9 hp9 (by rw [g501]; exact hsp9)
    refine ⟨D3, ab_u L2 508 0 (ab_I v).toInt64, z, bb_row (bb_keep D3 501) 501 g', 0, v, ?_, e4, by omega, i2, fun _ => ab_u_eq, i1, Nat.le_refl _, Nat.le_refl _⟩
    simp (discharger := first | assumption | exact True.intro | exact not_false | (refine ab_gK ?_; with_unfolding_all rfl) | exact ab_rgI (by omega) (by omega) | omega) only [ab_a78, ab_a166, a1, e2, e3, ab_e78_0, ab_e78_1, ab_e78_2, ab_e78_3, ab_e78_4, ab_e78_5, ab_e78_8, ab_e78_9, ab_e78_10, ab_e78_13, ab_e78_15, ab_e78_16, ab_e78_17, ab_e78_18, ab_e166_0, ab_e166_1, ab_e166_4, ab_e166_5, ab_e166_8, ab_e166_11, ab_e166_12, ab_e166_13, ab_e166_16, ab_e166_17, ab_e166_18, ab_e166_21, ab_e166_24, ab_br_t, ab_br_f, ab_re_v (ab_zz _), ab_re_n (ab_zz _)]

theorem bb_op76 {K : ab_Kt} {D : Nat → Int → Int} {L : Nat → Int → Int64} {z : ab_Z} {n : Int} (hn : n < 512) (h : bb_INV n D L z) {l : Int} (hl9 : ab_rg l) : bb_OP K n D L z 76 [.ref 17, .int (ab_I l), .ref 508] 77 [.ref 500, .int (ab_I l)] := by
  have hI := h
  obtain ⟨n1, ⟨w1, w2, w3⟩, -, -, h6, -, -, -⟩ := hI
  have n9 : 0 ≤ n ∧ n < 512 := ⟨n1.1, hn⟩
  have cm := bb_cc_mono n9
  have hsp := ab_sp0
  obtain ⟨D1, L1, a1, a2, a3, a4⟩ := bb_y192 (K := K) (z := z) w1 w3 w2
  have d501 : D1 501 = D 501 := (a4 501 (by omega)).1
  have d500 : D1 500 = D 500 := (a4 500 (by omega)).1
  rcases hsp9 : bb_sp_spool (D 501) l with ⟨r, d⟩ | ⟨v, g'⟩
  · have e2 := bb_cno224 (K := K) (z := z) w1 a2.1 hl9 hsp9
    have e3 := bb_y195t (K := K) (D := bb_cref D1 r d) (L := L1) (z := z)
    obtain ⟨i1, i2⟩ := bb_INV_no hn h (bb_r_spool hsp9) a2 a4
    have hrow : bb_cref D1 r d 501 = D 501 := by
      unfold bb_cref
      rw [ab_u_row (by decide), ab_u_row (by decide), ab_u_row (by decide), d501]
    have e4 := bb_no77 (K := K) (D := bb_cref D1 r d) (L := L1) (z := ab_zc (ab_zx z)) (c := bb_cc n) (by rw [hrow]; exact w1) hl9 (by rw [hrow]; exact hsp9)
    refine ⟨bb_cref D1 r d, L1, ab_zc (ab_zx z), bb_ref (bb_cref D1 r d) r d, 1, 0, ?_, e4, by omega, i2, fun x => absurd x (by omega), i1, Nat.le_succ _, Nat.le_add_right _ 6⟩
    simp (discharger := first | assumption | exact True.intro | exact not_false | (refine ab_gK ?_; with_unfolding_all rfl) | exact ab_rgI (by omega) (by omega) | omega) only [ab_a76, ab_a165, a1, e2, e3, ab_re_t (M := 165) (pc := 20) (E := "java/lang/UnsupportedOperationException") (by rfl) (ab_zzx _), ab_re_h (M := 76) (pc := 4) (E := "java/lang/UnsupportedOperationException") (ph := 12) (by rfl) (ab_zzx _), ab_e76_0, ab_e76_1, ab_e76_2, ab_e76_3, ab_e76_4, ab_e76_7, ab_e76_8, ab_e76_9, ab_e76_12, ab_e76_13, ab_e76_14, ab_e76_15, ab_e76_16, ab_e165_0, ab_e165_1, ab_e165_4, ab_e165_5, ab_e165_8, ab_e165_11, ab_e165_12, ab_e165_13, ab_e165_16, ab_e165_17, ab_e165_20, ab_e165_23, ab_br_t, ab_br_f, ab_re_v (ab_zz _), ab_re_n (ab_zz _)]
  · obtain ⟨D2, L2, e2, f1, f2⟩ := bb_cok224 (K := K) (z := z) w1 a2.1 hl9 hsp9
    have hv := bb_v_spool w1 hsp9
    have hw' := bb_W_spool w1 cm.2.2.2 hsp9
    have e62 : D2 62 = D1 62 := (f2 62 (by omega)).1
    have s62 := bb_sI_e (D1 62 1)
    obtain ⟨-, n2, n3, n4, n5⟩ := id a2
    have hn0 : bb_KS D2 L2 (ab_sI (D2 62 1)) (D 501) := by
      rw [e62]
      exact bb_KS_fr w1 (fun i x y => f2 i (by omega)) a3
    have hC2 : bb_CH D2 L2 g' (bb_Fk D) (D 500 5) := by
      refine ⟨f1, by rw [e62]; exact n2, by rw [e62]; exact n3, n4, fun j j0 j1 => ?_⟩
      rw [e62]
      have sj := bb_sI_e ((D1 62 1 - D 500 5 + j) % 9)
      exact bb_KS_fr (w3 j j0 j1) (fun i x y => f2 i (by omega)) (n5 j j0 j1)
    obtain ⟨D3, e3, k1, k2⟩ := bb_y195 (K := K) (z := z) hw' (bb_WS_mono (by omega) cm.2.2.2 w1) (fun j j0 j1 => bb_WS_mono (by omega) cm.2.2.2 (w3 j j0 j1)) hC2 hn0 hv
    have hfr : ∀ i, (i < 19 ∨ 451 ≤ i) → D3 i = D i ∧ L2 i = L i := fun i hi => by
      refine ⟨?_, ?_⟩
      · rw [k2 i (by omega), (f2 i (by omega)).1, (a4 i (by omega)).1]
      · rw [(f2 i (by omega)).2, (a4 i (by omega)).2]
    obtain ⟨i1, i2⟩ := bb_INV_ok (x := (ab_I v).toInt64) hn h hw' k1 hfr
    have g501 : D3 501 = D 501 := (hfr 501 (by omega)).1
    have g500 : D3 500 = D 500 := (hfr 500 (by omega)).1
    have e4 := bb_ok77 (K := K) (D := D3) (L := ab_u L2 508 0 (ab_I v).toInt64) (z := z) (c := bb_cc n) (by rw [g501]; exact w1) ⟨by rw [g500]; exact w2.2.2.2.1, by rw [g500]; exact .inl h6⟩ hl9 (by rw [g501]; exact hsp9)
    refine ⟨D3, ab_u L2 508 0 (ab_I v).toInt64, z, bb_row (bb_keep D3 501) 501 g', 0, v, ?_, e4, by omega, i2, fun _ => ab_u_eq, i1, Nat.le_refl _, Nat.le_refl _⟩
    simp (discharger := first | assumption | exact True.intro | exact not_false | (refine ab_gK ?_; with_unfolding_all rfl) | exact ab_rgI (by omega) (by omega) | omega) only [ab_a76, ab_a165, a1, e2, e3, ab_e76_0, ab_e76_1, ab_e76_2, ab_e76_3, ab_e76_4, ab_e76_7, ab_e76_8, ab_e76_9, ab_e76_12, ab_e76_13, ab_e76_14, ab_e76_15, ab_e76_16, ab_e165_0, ab_e165_1, ab_e165_4, ab_e165_5, ab_e165_8, ab_e165_11, ab_e165_12, ab_e165_13, ab_e165_16, ab_e165_17, ab_e165_20, ab_e165_23, ab_br_t, ab_br_f, ab_re_v (ab_zz _), ab_re_n (ab_zz _)]

theorem bb_op74 {K : ab_Kt} {D : Nat → Int → Int} {L : Nat → Int → Int64} {z : ab_Z} {n : Int} (hn : n < 512) (h : bb_INV n D L z) {b : Int} (hb9 : ab_rg b) : bb_OP K n D L z 74 [.ref 17, .int (ab_I b), .ref 508] 75 [.ref 500, .int (ab_I b)] := by
  have hI := h
  obtain ⟨n1, ⟨w1, w2, w3⟩, -, -, h6, -, -, -⟩ := hI
  have n9 : 0 ≤ n ∧ n < 512 := ⟨n1.1, hn⟩
  have cm := bb_cc_mono n9
  have hsp := ab_sp0
  obtain ⟨D1, L1, a1, a2, a3, a4⟩ := bb_y192 (K := K) (z := z) w1 w3 w2
  have d501 : D1 501 = D 501 := (a4 501 (by omega)).1
  have d500 : D1 500 = D 500 := (a4 500 (by omega)).1
  rcases hsp9 : bb_sp_sew (D 501) b with ⟨r, d⟩ | ⟨v, g'⟩
  · have e2 := bb_cno223 (K := K) (z := z) w1 a2.1 hb9 hsp9
    have e3 := bb_y195t (K := K) (D := bb_cref D1 r d) (L := L1) (z := z)
    obtain ⟨i1, i2⟩ := bb_INV_no hn h (bb_r_sew hsp9) a2 a4
    have hrow : bb_cref D1 r d 501 = D 501 := by
      unfold bb_cref
      rw [ab_u_row (by decide), ab_u_row (by decide), ab_u_row (by decide), d501]
    have e4 := bb_no75 (K := K) (D := bb_cref D1 r d) (L := L1) (z := ab_zc (ab_zx z)) (c := bb_cc n) (by rw [hrow]; exact w1) hb9 (by rw [hrow]; exact hsp9)
    refine ⟨bb_cref D1 r d, L1, ab_zc (ab_zx z), bb_ref (bb_cref D1 r d) r d, 1, 0, ?_, e4, by omega, i2, fun x => absurd x (by omega), i1, Nat.le_succ _, Nat.le_add_right _ 6⟩
    simp (discharger := first | assumption | exact True.intro | exact not_false | (refine ab_gK ?_; with_unfolding_all rfl) | exact ab_rgI (by omega) (by omega) | omega) only [ab_a74, ab_a164, a1, e2, e3, ab_re_t (M := 164) (pc := 20) (E := "java/lang/UnsupportedOperationException") (by rfl) (ab_zzx _), ab_re_h (M := 74) (pc := 4) (E := "java/lang/UnsupportedOperationException") (ph := 12) (by rfl) (ab_zzx _), ab_e74_0, ab_e74_1, ab_e74_2, ab_e74_3, ab_e74_4, ab_e74_7, ab_e74_8, ab_e74_9, ab_e74_12, ab_e74_13, ab_e74_14, ab_e74_15, ab_e74_16, ab_e164_0, ab_e164_1, ab_e164_4, ab_e164_5, ab_e164_8, ab_e164_11, ab_e164_12, ab_e164_13, ab_e164_16, ab_e164_17, ab_e164_20, ab_e164_23, ab_br_t, ab_br_f, ab_re_v (ab_zz _), ab_re_n (ab_zz _)]
  · obtain ⟨D2, L2, e2, f1, f2⟩ := bb_cok223 (K := K) (z := z) w1 a2.1 hb9 hsp9
    have hv := bb_v_sew w1 hsp9
    have hw' := bb_W_sew w1 cm.2.2.2 hsp9
    have e62 : D2 62 = D1 62 := (f2 62 (by omega)).1
    have s62 := bb_sI_e (D1 62 1)
    obtain ⟨-, n2, n3, n4, n5⟩ := id a2
    have hn0 : bb_KS D2 L2 (ab_sI (D2 62 1)) (D 501) := by
      rw [e62]
      exact bb_KS_fr w1 (fun i x y => f2 i (by omega)) a3
    have hC2 : bb_CH D2 L2 g' (bb_Fk D) (D 500 5) := by
      refine ⟨f1, by rw [e62]; exact n2, by rw [e62]; exact n3, n4, fun j j0 j1 => ?_⟩
      rw [e62]
      have sj := bb_sI_e ((D1 62 1 - D 500 5 + j) % 9)
      exact bb_KS_fr (w3 j j0 j1) (fun i x y => f2 i (by omega)) (n5 j j0 j1)
    obtain ⟨D3, e3, k1, k2⟩ := bb_y195 (K := K) (z := z) hw' (bb_WS_mono (by omega) cm.2.2.2 w1) (fun j j0 j1 => bb_WS_mono (by omega) cm.2.2.2 (w3 j j0 j1)) hC2 hn0 hv
    have hfr : ∀ i, (i < 19 ∨ 451 ≤ i) → D3 i = D i ∧ L2 i = L i := fun i hi => by
      refine ⟨?_, ?_⟩
      · rw [k2 i (by omega), (f2 i (by omega)).1, (a4 i (by omega)).1]
      · rw [(f2 i (by omega)).2, (a4 i (by omega)).2]
    obtain ⟨i1, i2⟩ := bb_INV_ok (x := (ab_I v).toInt64) hn h hw' k1 hfr
    have g501 : D3 501 = D 501 := (hfr 501 (by omega)).1
    have g500 : D3 500 = D 500 := (hfr 500 (by omega)).1
    have e4 := bb_ok75 (K := K) (D := D3) (L := ab_u L2 508 0 (ab_I v).toInt64) (z := z) (c := bb_cc n) (by rw [g501]; exact w1) ⟨by rw [g500]; exact w2.2.2.2.1, by rw [g500]; exact .inl h6⟩ hb9 (by rw [g501]; exact hsp9)
    refine ⟨D3, ab_u L2 508 0 (ab_I v).toInt64, z, bb_row (bb_keep D3 501) 501 g', 0, v, ?_, e4, by omega, i2, fun _ => ab_u_eq, i1, Nat.le_refl _, Nat.le_refl _⟩
    simp (discharger := first | assumption | exact True.intro | exact not_false | (refine ab_gK ?_; with_unfolding_all rfl) | exact ab_rgI (by omega) (by omega) | omega) only [ab_a74, ab_a164, a1, e2, e3, ab_e74_0, ab_e74_1, ab_e74_2, ab_e74_3, ab_e74_4, ab_e74_7, ab_e74_8, ab_e74_9, ab_e74_12, ab_e74_13, ab_e74_14, ab_e74_15, ab_e74_16, ab_e164_0, ab_e164_1, ab_e164_4, ab_e164_5, ab_e164_8, ab_e164_11, ab_e164_12, ab_e164_13, ab_e164_16, ab_e164_17, ab_e164_20, ab_e164_23, ab_br_t, ab_br_f, ab_re_v (ab_zz _), ab_re_n (ab_zz _)]

theorem bb_op72 {K : ab_Kt} {D : Nat → Int → Int} {L : Nat → Int → Int64} {z : ab_Z} {n : Int} (hn : n < 512) (h : bb_INV n D L z) {b : Int} (hb9 : ab_rg b) : bb_OP K n D L z 72 [.ref 17, .int (ab_I b), .ref 508] 73 [.ref 500, .int (ab_I b)] := by
  have hI := h
  obtain ⟨n1, ⟨w1, w2, w3⟩, -, -, h6, -, -, -⟩ := hI
  have n9 : 0 ≤ n ∧ n < 512 := ⟨n1.1, hn⟩
  have cm := bb_cc_mono n9
  have hsp := ab_sp0
  obtain ⟨D1, L1, a1, a2, a3, a4⟩ := bb_y192 (K := K) (z := z) w1 w3 w2
  have d501 : D1 501 = D 501 := (a4 501 (by omega)).1
  have d500 : D1 500 = D 500 := (a4 500 (by omega)).1
  rcases hsp9 : bb_sp_unpick (D 501) b with ⟨r, d⟩ | ⟨v, g'⟩
  · have e2 := bb_cno222 (K := K) (z := z) w1 a2.1 hb9 hsp9
    have e3 := bb_y195t (K := K) (D := bb_cref D1 r d) (L := L1) (z := z)
    obtain ⟨i1, i2⟩ := bb_INV_no hn h (bb_r_unpick hsp9) a2 a4
    have hrow : bb_cref D1 r d 501 = D 501 := by
      unfold bb_cref
      rw [ab_u_row (by decide), ab_u_row (by decide), ab_u_row (by decide), d501]
    have e4 := bb_no73 (K := K) (D := bb_cref D1 r d) (L := L1) (z := ab_zc (ab_zx z)) (c := bb_cc n) (by rw [hrow]; exact w1) hb9 (by rw [hrow]; exact hsp9)
    refine ⟨bb_cref D1 r d, L1, ab_zc (ab_zx z), bb_ref (bb_cref D1 r d) r d, 1, 0, ?_, e4, by omega, i2, fun x => absurd x (by omega), i1, Nat.le_succ _, Nat.le_add_right _ 6⟩
    simp (discharger := first | assumption | exact True.intro | exact not_false | (refine ab_gK ?_; with_unfolding_all rfl) | exact ab_rgI (by omega) (by omega) | omega) only [ab_a72, ab_a163, a1, e2, e3, ab_re_t (M := 163) (pc := 20) (E := "java/lang/UnsupportedOperationException") (by rfl) (ab_zzx _), ab_re_h (M := 72) (pc := 4) (E := "java/lang/UnsupportedOperationException") (ph := 12) (by rfl) (ab_zzx _), ab_e72_0, ab_e72_1, ab_e72_2, ab_e72_3, ab_e72_4, ab_e72_7, ab_e72_8, ab_e72_9, ab_e72_12, ab_e72_13, ab_e72_14, ab_e72_15, ab_e72_16, ab_e163_0, ab_e163_1, ab_e163_4, ab_e163_5, ab_e163_8, ab_e163_11, ab_e163_12, ab_e163_13, ab_e163_16, ab_e163_17, ab_e163_20, ab_e163_23, ab_br_t, ab_br_f, ab_re_v (ab_zz _), ab_re_n (ab_zz _)]
  · obtain ⟨D2, L2, e2, f1, f2⟩ := bb_cok222 (K := K) (z := z) w1 a2.1 hb9 hsp9
    have hv := bb_v_unpick w1 hsp9
    have hw' := bb_W_unpick w1 cm.2.2.2 hsp9
    have e62 : D2 62 = D1 62 := (f2 62 (by omega)).1
    have s62 := bb_sI_e (D1 62 1)
    obtain ⟨-, n2, n3, n4, n5⟩ := id a2
    have hn0 : bb_KS D2 L2 (ab_sI (D2 62 1)) (D 501) := by
      rw [e62]
      exact bb_KS_fr w1 (fun i x y => f2 i (by omega)) a3
    have hC2 : bb_CH D2 L2 g' (bb_Fk D) (D 500 5) := by
      refine ⟨f1, by rw [e62]; exact n2, by rw [e62]; exact n3, n4, fun j j0 j1 => ?_⟩
      rw [e62]
      have sj := bb_sI_e ((D1 62 1 - D 500 5 + j) % 9)
      exact bb_KS_fr (w3 j j0 j1) (fun i x y => f2 i (by omega)) (n5 j j0 j1)
    obtain ⟨D3, e3, k1, k2⟩ := bb_y195 (K := K) (z := z) hw' (bb_WS_mono (by omega) cm.2.2.2 w1) (fun j j0 j1 => bb_WS_mono (by omega) cm.2.2.2 (w3 j j0 j1)) hC2 hn0 hv
    have hfr : ∀ i, (i < 19 ∨ 451 ≤ i) → D3 i = D i ∧ L2 i = L i := fun i hi => by
      refine ⟨?_, ?_⟩
      · rw [k2 i (by omega), (f2 i (by omega)).1, (a4 i (by omega)).1]
      · rw [(f2 i (by omega)).2, (a4 i (by omega)).2]
    obtain ⟨i1, i2⟩ := bb_INV_ok (x := (ab_I v).toInt64) hn h hw' k1 hfr
    have g501 : D3 501 = D 501 := (hfr 501 (by omega)).1
    have g500 : D3 500 = D 500 := (hfr 500 (by omega)).1
    have e4 := bb_ok73 (K := K) (D := D3) (L := ab_u L2 508 0 (ab_I v).toInt64) (z := z) (c := bb_cc n) (by rw [g501]; exact w1) ⟨by rw [g500]; exact w2.2.2.2.1, by rw [g500]; exact .inl h6⟩ hb9 (by rw [g501]; exact hsp9)
    refine ⟨D3, ab_u L2 508 0 (ab_I v).toInt64, z, bb_row (bb_keep D3 501) 501 g', 0, v, ?_, e4, by omega, i2, fun _ => ab_u_eq, i1, Nat.le_refl _, Nat.le_refl _⟩
    simp (discharger := first | assumption | exact True.intro | exact not_false | (refine ab_gK ?_; with_unfolding_all rfl) | exact ab_rgI (by omega) (by omega) | omega) only [ab_a72, ab_a163, a1, e2, e3, ab_e72_0, ab_e72_1, ab_e72_2, ab_e72_3, ab_e72_4, ab_e72_7, ab_e72_8, ab_e72_9, ab_e72_12, ab_e72_13, ab_e72_14, ab_e72_15, ab_e72_16, ab_e163_0, ab_e163_1, ab_e163_4, ab_e163_5, ab_e163_8, ab_e163_11, ab_e163_12, ab_e163_13, ab_e163_16, ab_e163_17, ab_e163_20, ab_e163_23, ab_br_t, ab_br_f, ab_re_v (ab_zz _), ab_re_n (ab_zz _)]

theorem bb_op70 {K : ab_Kt} {D : Nat → Int → Int} {L : Nat → Int → Int64} {z : ab_Z} {n : Int} (hn : n < 512) (h : bb_INV n D L z) {b q : Int} (hb9 : ab_rg b) (hq9 : ab_rg q) : bb_OP K n D L z 70 [.ref 17, .int (ab_I b), .int (ab_I q), .ref 508] 71 [.ref 500, .int (ab_I b), .int (ab_I q)] := by
  have hI := h
  obtain ⟨n1, ⟨w1, w2, w3⟩, -, -, h6, -, -, -⟩ := hI
  have n9 : 0 ≤ n ∧ n < 512 := ⟨n1.1, hn⟩
  have cm := bb_cc_mono n9
  have hsp := ab_sp0
  obtain ⟨D1, L1, a1, a2, a3, a4⟩ := bb_y192 (K := K) (z := z) w1 w3 w2
  have d501 : D1 501 = D 501 := (a4 501 (by omega)).1
  have d500 : D1 500 = D 500 := (a4 500 (by omega)).1
  rcases hsp9 : bb_sp_glue (D 501) b q with ⟨r, d⟩ | ⟨v, g'⟩
  · have e2 := bb_cno221 (K := K) (z := z) w1 a2.1 hb9 hq9 hsp9
    have e3 := bb_y195t (K := K) (D := bb_cref D1 r d) (L := L1) (z := z)
    obtain ⟨i1, i2⟩ := bb_INV_no hn h (bb_r_glue hsp9) a2 a4
    have hrow : bb_cref D1 r d 501 = D 501 := by
      unfold bb_cref
      rw [ab_u_row (by decide), ab_u_row (by decide), ab_u_row (by decide), d501]
    have e4 := bb_no71 (K := K) (D := bb_cref D1 r d) (L := L1) (z := ab_zc (ab_zx z)) (c := bb_cc n) (by rw [hrow]; exact w1) hb9 hq9 (by rw [hrow]; exact hsp9)
    refine ⟨bb_cref D1 r d, L1, ab_zc (ab_zx z), bb_ref (bb_cref D1 r d) r d, 1, 0, ?_, e4, by omega, i2, fun x => absurd x (by omega), i1, Nat.le_succ _, Nat.le_add_right _ 6⟩
    simp (discharger := first | assumption | exact True.intro | exact not_false | (refine ab_gK ?_; with_unfolding_all rfl) | exact ab_rgI (by omega) (by omega) | omega) only [ab_a70, ab_a161, a1, e2, e3, ab_re_t (M := 161) (pc := 21) (E := "java/lang/UnsupportedOperationException") (by rfl) (ab_zzx _), ab_re_h (M := 70) (pc := 5) (E := "java/lang/UnsupportedOperationException") (ph := 13) (by rfl) (ab_zzx _), ab_e70_0, ab_e70_1, ab_e70_2, ab_e70_3, ab_e70_4, ab_e70_5, ab_e70_8, ab_e70_9, ab_e70_10, ab_e70_13, ab_e70_15, ab_e70_16, ab_e70_17, ab_e70_18, ab_e161_0, ab_e161_1, ab_e161_4, ab_e161_5, ab_e161_8, ab_e161_11, ab_e161_12, ab_e161_13, ab_e161_16, ab_e161_17, ab_e161_18, ab_e161_21, ab_e161_24, ab_br_t, ab_br_f, ab_re_v (ab_zz _), ab_re_n (ab_zz _)]
  · obtain ⟨D2, L2, e2, f1, f2⟩ := bb_cok221 (K := K) (z := z) w1 a2.1 hb9 hq9 hsp9
    have hv := bb_v_glue w1 hsp9
    have hw' := bb_W_glue w1 cm.2.2.2 hsp9
    have e62 : D2 62 = D1 62 := (f2 62 (by omega)).1
    have s62 := bb_sI_e (D1 62 1)
    obtain ⟨-, n2, n3, n4, n5⟩ := id a2
    have hn0 : bb_KS D2 L2 (ab_sI (D2 62 1)) (D 501) := by
      rw [e62]
      exact bb_KS_fr w1 (fun i x y => f2 i (by omega)) a3
    have hC2 : bb_CH D2 L2 g' (bb_Fk D) (D 500 5) := by
      refine ⟨f1, by rw [e62]; exact n2, by rw [e62]; exact n3, n4, fun j j0 j1 => ?_⟩
      rw [e62]
      have sj := bb_sI_e ((D1 62 1 - D 500 5 + j) % 9)
      exact bb_KS_fr (w3 j j0 j1) (fun i x y => f2 i (by omega)) (n5 j j0 j1)
    obtain ⟨D3, e3, k1, k2⟩ := bb_y195 (K := K) (z := z) hw' (bb_WS_mono (by omega) cm.2.2.2 w1) (fun j j0 j1 => bb_WS_mono (by omega) cm.2.2.2 (w3 j j0 j1)) hC2 hn0 hv
    have hfr : ∀ i, (i < 19 ∨ 451 ≤ i) → D3 i = D i ∧ L2 i = L i := fun i hi => by
      refine ⟨?_, ?_⟩
      · rw [k2 i (by omega), (f2 i (by omega)).1, (a4 i (by omega)).1]
      · rw [(f2 i (by omega)).2, (a4 i (by omega)).2]
    obtain ⟨i1, i2⟩ := bb_INV_ok (x := (ab_I v).toInt64) hn h hw' k1 hfr
    have g501 : D3 501 = D 501 := (hfr 501 (by omega)).1
    have g500 : D3 500 = D 500 := (hfr 500 (by omega)).1
    have e4 := bb_ok71 (K := K) (D := D3) (L := ab_u L2 508 0 (ab_I v).toInt64) (z := z) (c := bb_cc n) (by rw [g501]; exact w1) ⟨by rw [g500]; exact w2.2.2.2.1, by rw [g500]; exact .inl h6⟩ hb9 hq9 (by rw [g501]; exact hsp9)
    refine ⟨D3, ab_u L2 508 0 (ab_I v).toInt64, z, bb_row (bb_keep D3 501) 501 g', 0, v, ?_, e4, by omega, i2, fun _ => ab_u_eq, i1, Nat.le_refl _, Nat.le_refl _⟩
    simp (discharger := first | assumption | exact True.intro | exact not_false | (refine ab_gK ?_; with_unfolding_all rfl) | exact ab_rgI (by omega) (by omega) | omega) only [ab_a70, ab_a161, a1, e2, e3, ab_e70_0, ab_e70_1, ab_e70_2, ab_e70_3, ab_e70_4, ab_e70_5, ab_e70_8, ab_e70_9, ab_e70_10, ab_e70_13, ab_e70_15, ab_e70_16, ab_e70_17, ab_e70_18, ab_e161_0, ab_e161_1, ab_e161_4, ab_e161_5, ab_e161_8, ab_e161_11, ab_e161_12, ab_e161_13, ab_e161_16, ab_e161_17, ab_e161_18, ab_e161_21, ab_e161_24, ab_br_t, ab_br_f, ab_re_v (ab_zz _), ab_re_n (ab_zz _)]

theorem bb_op68 {K : ab_Kt} {D : Nat → Int → Int} {L : Nat → Int → Int64} {z : ab_Z} {n : Int} (hn : n < 512) (h : bb_INV n D L z) {b p : Int} (hb9 : ab_rg b) (hp9 : ab_rg p) : bb_OP K n D L z 68 [.ref 17, .int (ab_I b), .int (ab_I p), .ref 508] 69 [.ref 500, .int (ab_I b), .int (ab_I p)] := by
  have hI := h
  obtain ⟨n1, ⟨w1, w2, w3⟩, -, -, h6, -, -, -⟩ := hI
  have n9 : 0 ≤ n ∧ n < 512 := ⟨n1.1, hn⟩
  have cm := bb_cc_mono n9
  have hsp := ab_sp0
  obtain ⟨D1, L1, a1, a2, a3, a4⟩ := bb_y192 (K := K) (z := z) w1 w3 w2
  have d501 : D1 501 = D 501 := (a4 501 (by omega)).1
  have d500 : D1 500 = D 500 := (a4 500 (by omega)).1
  rcases hsp9 : bb_sp_press (D 501) b p with ⟨r, d⟩ | ⟨v, g'⟩
  · have e2 := bb_cno220 (K := K) (z := z) w1 a2.1 hb9 hp9 hsp9
    have e3 := bb_y195t (K := K) (D := bb_cref D1 r d) (L := L1) (z := z)
    obtain ⟨i1, i2⟩ := bb_INV_no hn h (bb_r_press hsp9) a2 a4
    have hrow : bb_cref D1 r d 501 = D 501 := by
      unfold bb_cref
      rw [ab_u_row (by decide), ab_u_row (by decide), ab_u_row (by decide), d501]
    have e4 := bb_no69 (K := K) (D := bb_cref D1 r d) (L := L1) (z := ab_zc (ab_zx z)) (c := bb_cc n) (by rw [hrow]; exact w1) hb9 hp9 (by rw [hrow]; exact hsp9)
    refine ⟨bb_cref D1 r d, L1, ab_zc (ab_zx z), bb_ref (bb_cref D1 r d) r d, 1, 0, ?_, e4, by omega, i2, fun x => absurd x (by omega), i1, Nat.le_succ _, Nat.le_add_right _ 6⟩
    simp (discharger := first | assumption | exact True.intro | exact not_false | (refine ab_gK ?_; with_unfolding_all rfl) | exact ab_rgI (by omega) (by omega) | omega) only [ab_a68, ab_a160, a1, e2, e3, ab_re_t (M := 160) (pc := 21) (E := "java/lang/UnsupportedOperationException") (by rfl) (ab_zzx _), ab_re_h (M := 68) (pc := 5) (E := "java/lang/UnsupportedOperationException") (ph := 13) (by rfl) (ab_zzx _), ab_e68_0, ab_e68_1, ab_e68_2, ab_e68_3, ab_e68_4, ab_e68_5, ab_e68_8, ab_e68_9, ab_e68_10, ab_e68_13, ab_e68_15, ab_e68_16, ab_e68_17, ab_e68_18, ab_e160_0, ab_e160_1, ab_e160_4, ab_e160_5, ab_e160_8, ab_e160_11, ab_e160_12, ab_e160_13, ab_e160_16, ab_e160_17, ab_e160_18, ab_e160_21, ab_e160_24, ab_br_t, ab_br_f, ab_re_v (ab_zz _), ab_re_n (ab_zz _)]
  · obtain ⟨D2, L2, e2, f1, f2⟩ := bb_cok220 (K := K) (z := z) w1 a2.1 hb9 hp9 hsp9
    have hv := bb_v_press w1 hsp9
    have hw' := bb_W_press w1 cm.2.2.2 hsp9
    have e62 : D2 62 = D1 62 := (f2 62 (by omega)).1
    have s62 := bb_sI_e (D1 62 1)
    obtain ⟨-, n2, n3, n4, n5⟩ := id a2
    have hn0 : bb_KS D2 L2 (ab_sI (D2 62 1)) (D 501) := by
      rw [e62]
      exact bb_KS_fr w1 (fun i x y => f2 i (by omega)) a3
    have hC2 : bb_CH D2 L2 g' (bb_Fk D) (D 500 5) := by
      refine ⟨f1, by rw [e62]; exact n2, by rw [e62]; exact n3, n4, fun j j0 j1 => ?_⟩
      rw [e62]
      have sj := bb_sI_e ((D1 62 1 - D 500 5 + j) % 9)
      exact bb_KS_fr (w3 j j0 j1) (fun i x y => f2 i (by omega)) (n5 j j0 j1)
    obtain ⟨D3, e3, k1, k2⟩ := bb_y195 (K := K) (z := z) hw' (bb_WS_mono (by omega) cm.2.2.2 w1) (fun j j0 j1 => bb_WS_mono (by omega) cm.2.2.2 (w3 j j0 j1)) hC2 hn0 hv
    have hfr : ∀ i, (i < 19 ∨ 451 ≤ i) → D3 i = D i ∧ L2 i = L i := fun i hi => by
      refine ⟨?_, ?_⟩
      · rw [k2 i (by omega), (f2 i (by omega)).1, (a4 i (by omega)).1]
      · rw [(f2 i (by omega)).2, (a4 i (by omega)).2]
    obtain ⟨i1, i2⟩ := bb_INV_ok (x := (ab_I v).toInt64) hn h hw' k1 hfr
    have g501 : D3 501 = D 501 := (hfr 501 (by omega)).1
    have g500 : D3 500 = D 500 := (hfr 500 (by omega)).1
    have e4 := bb_ok69 (K := K) (D := D3) (L := ab_u L2 508 0 (ab_I v).toInt64) (z := z) (c := bb_cc n) (by rw [g501]; exact w1) ⟨by rw [g500]; exact w2.2.2.2.1, by rw [g500]; exact .inl h6⟩ hb9 hp9 (by rw [g501]; exact hsp9)
    refine ⟨D3, ab_u L2 508 0 (ab_I v).toInt64, z, bb_row (bb_keep D3 501) 501 g', 0, v, ?_, e4, by omega, i2, fun _ => ab_u_eq, i1, Nat.le_refl _, Nat.le_refl _⟩
    simp (discharger := first | assumption | exact True.intro | exact not_false | (refine ab_gK ?_; with_unfolding_all rfl) | exact ab_rgI (by omega) (by omega) | omega) only [ab_a68, ab_a160, a1, e2, e3, ab_e68_0, ab_e68_1, ab_e68_2, ab_e68_3, ab_e68_4, ab_e68_5, ab_e68_8, ab_e68_9, ab_e68_10, ab_e68_13, ab_e68_15, ab_e68_16, ab_e68_17, ab_e68_18, ab_e160_0, ab_e160_1, ab_e160_4, ab_e160_5, ab_e160_8, ab_e160_11, ab_e160_12, ab_e160_13, ab_e160_16, ab_e160_17, ab_e160_18, ab_e160_21, ab_e160_24, ab_br_t, ab_br_f, ab_re_v (ab_zz _), ab_re_n (ab_zz _)]

theorem bb_op66 {K : ab_Kt} {D : Nat → Int → Int} {L : Nat → Int → Int64} {z : ab_Z} {n : Int} (hn : n < 512) (h : bb_INV n D L z) {p : Int} (hp9 : ab_rg p) : bb_OP K n D L z 66 [.ref 17, .int (ab_I p), .ref 508] 67 [.ref 500, .int (ab_I p)] := by
  have hI := h
  obtain ⟨n1, ⟨w1, w2, w3⟩, -, -, h6, -, -, -⟩ := hI
  have n9 : 0 ≤ n ∧ n < 512 := ⟨n1.1, hn⟩
  have cm := bb_cc_mono n9
  have hsp := ab_sp0
  obtain ⟨D1, L1, a1, a2, a3, a4⟩ := bb_y192 (K := K) (z := z) w1 w3 w2
  have d501 : D1 501 = D 501 := (a4 501 (by omega)).1
  have d500 : D1 500 = D 500 := (a4 500 (by omega)).1
  rcases hsp9 : bb_sp_lift (D 501) p with ⟨r, d⟩ | ⟨v, g'⟩
  · have e2 := bb_cno219 (K := K) (z := z) w1 a2.1 hp9 hsp9
    have e3 := bb_y195t (K := K) (D := bb_cref D1 r d) (L := L1) (z := z)
    obtain ⟨i1, i2⟩ := bb_INV_no hn h (bb_r_lift hsp9) a2 a4
    have hrow : bb_cref D1 r d 501 = D 501 := by
      unfold bb_cref
      rw [ab_u_row (by decide), ab_u_row (by decide), ab_u_row (by decide), d501]
    have e4 := bb_no67 (K := K) (D := bb_cref D1 r d) (L := L1) (z := ab_zc (ab_zx z)) (c := bb_cc n) (by rw [hrow]; exact w1) hp9 (by rw [hrow]; exact hsp9)
    refine ⟨bb_cref D1 r d, L1, ab_zc (ab_zx z), bb_ref (bb_cref D1 r d) r d, 1, 0, ?_, e4, by omega, i2, fun x => absurd x (by omega), i1, Nat.le_succ _, Nat.le_add_right _ 6⟩
    simp (discharger := first | assumption | exact True.intro | exact not_false | (refine ab_gK ?_; with_unfolding_all rfl) | exact ab_rgI (by omega) (by omega) | omega) only [ab_a66, ab_a159, a1, e2, e3, ab_re_t (M := 159) (pc := 20) (E := "java/lang/UnsupportedOperationException") (by rfl) (ab_zzx _), ab_re_h (M := 66) (pc := 4) (E := "java/lang/UnsupportedOperationException") (ph := 12) (by rfl) (ab_zzx _), ab_e66_0, ab_e66_1, ab_e66_2, ab_e66_3, ab_e66_4, ab_e66_7, ab_e66_8, ab_e66_9, ab_e66_12, ab_e66_13, ab_e66_14, ab_e66_15, ab_e66_16, ab_e159_0, ab_e159_1, ab_e159_4, ab_e159_5, ab_e159_8, ab_e159_11, ab_e159_12, ab_e159_13, ab_e159_16, ab_e159_17, ab_e159_20, ab_e159_23, ab_br_t, ab_br_f, ab_re_v (ab_zz _), ab_re_n (ab_zz _)]
  · obtain ⟨D2, L2, e2, f1, f2⟩ := bb_cok219 (K := K) (z := z) w1 a2.1 hp9 hsp9
    have hv := bb_v_lift w1 hsp9
    have hw' := bb_W_lift w1 cm.2.2.2 hsp9
    have e62 : D2 62 = D1 62 := (f2 62 (by omega)).1
    have s62 := bb_sI_e (D1 62 1)
    obtain ⟨-, n2, n3, n4, n5⟩ := id a2
    have hn0 : bb_KS D2 L2 (ab_sI (D2 62 1)) (D 501) := by
      rw [e62]
      exact bb_KS_fr w1 (fun i x y => f2 i (by omega)) a3
    have hC2 : bb_CH D2 L2 g' (bb_Fk D) (D 500 5) := by
      refine ⟨f1, by rw [e62]; exact n2, by rw [e62]; exact n3, n4, fun j j0 j1 => ?_⟩
      rw [e62]
      have sj := bb_sI_e ((D1 62 1 - D 500 5 + j) % 9)
      exact bb_KS_fr (w3 j j0 j1) (fun i x y => f2 i (by omega)) (n5 j j0 j1)
    obtain ⟨D3, e3, k1, k2⟩ := bb_y195 (K := K) (z := z) hw' (bb_WS_mono (by omega) cm.2.2.2 w1) (fun j j0 j1 => bb_WS_mono (by omega) cm.2.2.2 (w3 j j0 j1)) hC2 hn0 hv
    have hfr : ∀ i, (i < 19 ∨ 451 ≤ i) → D3 i = D i ∧ L2 i = L i := fun i hi => by
      refine ⟨?_, ?_⟩
      · rw [k2 i (by omega), (f2 i (by omega)).1, (a4 i (by omega)).1]
      · rw [(f2 i (by omega)).2, (a4 i (by omega)).2]
    obtain ⟨i1, i2⟩ := bb_INV_ok (x := (ab_I v).toInt64) hn h hw' k1 hfr
    have g501 : D3 501 = D 501 := (hfr 501 (by omega)).1
    have g500 : D3 500 = D 500 := (hfr 500 (by omega)).1
    have e4 := bb_ok67 (K := K) (D := D3) (L := ab_u L2 508 0 (ab_I v).toInt64) (z := z) (c := bb_cc n) (by rw [g501]; exact w1) ⟨by rw [g500]; exact w2.2.2.2.1, by rw [g500]; exact .inl h6⟩ hp9 (by rw [g501]; exact hsp9)
    refine ⟨D3, ab_u L2 508 0 (ab_I v).toInt64, z, bb_row (bb_keep D3 501) 501 g', 0, v, ?_, e4, by omega, i2, fun _ => ab_u_eq, i1, Nat.le_refl _, Nat.le_refl _⟩
    simp (discharger := first | assumption | exact True.intro | exact not_false | (refine ab_gK ?_; with_unfolding_all rfl) | exact ab_rgI (by omega) (by omega) | omega) only [ab_a66, ab_a159, a1, e2, e3, ab_e66_0, ab_e66_1, ab_e66_2, ab_e66_3, ab_e66_4, ab_e66_7, ab_e66_8, ab_e66_9, ab_e66_12, ab_e66_13, ab_e66_14, ab_e66_15, ab_e66_16, ab_e159_0, ab_e159_1, ab_e159_4, ab_e159_5, ab_e159_8, ab_e159_11, ab_e159_12, ab_e159_13, ab_e159_16, ab_e159_17, ab_e159_20, ab_e159_23, ab_br_t, ab_br_f, ab_re_v (ab_zz _), ab_re_n (ab_zz _)]

theorem bb_op64 {K : ab_Kt} {D : Nat → Int → Int} {L : Nat → Int → Int64} {z : ab_Z} {n : Int} (hn : n < 512) (h : bb_INV n D L z) {b p : Int} (hb9 : ab_rg b) (hp9 : ab_rg p) : bb_OP K n D L z 64 [.ref 17, .int (ab_I b), .int (ab_I p), .ref 508] 65 [.ref 500, .int (ab_I b), .int (ab_I p)] := by
  have hI := h
  obtain ⟨n1, ⟨w1, w2, w3⟩, -, -, h6, -, -, -⟩ := hI
  have n9 : 0 ≤ n ∧ n < 512 := ⟨n1.1, hn⟩
  have cm := bb_cc_mono n9
  have hsp := ab_sp0
  obtain ⟨D1, L1, a1, a2, a3, a4⟩ := bb_y192 (K := K) (z := z) w1 w3 w2
  have d501 : D1 501 = D 501 := (a4 501 (by omega)).1
  have d500 : D1 500 = D 500 := (a4 500 (by omega)).1
  rcases hsp9 : bb_sp_slip (D 501) b p with ⟨r, d⟩ | ⟨v, g'⟩
  · have e2 := bb_cno218 (K := K) (z := z) w1 a2.1 hb9 hp9 hsp9
    have e3 := bb_y195t (K := K) (D := bb_cref D1 r d) (L := L1) (z := z)
    obtain ⟨i1, i2⟩ := bb_INV_no hn h (bb_r_slip hsp9) a2 a4
    have hrow : bb_cref D1 r d 501 = D 501 := by
      unfold bb_cref
      rw [ab_u_row (by decide), ab_u_row (by decide), ab_u_row (by decide), d501]
    have e4 := bb_no65 (K := K) (D := bb_cref D1 r d) (L := L1) (z := ab_zc (ab_zx z)) (c := bb_cc n) (by rw [hrow]; exact w1) cm.2.2.2 hb9 hp9 (by rw [hrow]; exact hsp9)
    refine ⟨bb_cref D1 r d, L1, ab_zc (ab_zx z), bb_ref (bb_cref D1 r d) r d, 1, 0, ?_, e4, by omega, i2, fun x => absurd x (by omega), i1, Nat.le_succ _, Nat.le_add_right _ 6⟩
    simp (discharger := first | assumption | exact True.intro | exact not_false | (refine ab_gK ?_; with_unfolding_all rfl) | exact ab_rgI (by omega) (by omega) | omega) only [ab_a64, ab_a158, a1, e2, e3, ab_re_t (M := 158) (pc := 21) (E := "java/lang/UnsupportedOperationException") (by rfl) (ab_zzx _), ab_re_h (M := 64) (pc := 5) (E := "java/lang/UnsupportedOperationException") (ph := 13) (by rfl) (ab_zzx _), ab_e64_0, ab_e64_1, ab_e64_2, ab_e64_3, ab_e64_4, ab_e64_5, ab_e64_8, ab_e64_9, ab_e64_10, ab_e64_13, ab_e64_15, ab_e64_16, ab_e64_17, ab_e64_18, ab_e158_0, ab_e158_1, ab_e158_4, ab_e158_5, ab_e158_8, ab_e158_11, ab_e158_12, ab_e158_13, ab_e158_16, ab_e158_17, ab_e158_18, ab_e158_21, ab_e158_24, ab_br_t, ab_br_f, ab_re_v (ab_zz _), ab_re_n (ab_zz _)]
  · obtain ⟨D2, L2, e2, f1, f2⟩ := bb_cok218 (K := K) (z := z) w1 a2.1 hb9 hp9 hsp9
    have hv := bb_v_slip w1 hsp9
    have hw' := bb_W_slip w1 cm.2.2.2 hsp9
    have e62 : D2 62 = D1 62 := (f2 62 (by omega)).1
    have s62 := bb_sI_e (D1 62 1)
    obtain ⟨-, n2, n3, n4, n5⟩ := id a2
    have hn0 : bb_KS D2 L2 (ab_sI (D2 62 1)) (D 501) := by
      rw [e62]
      exact bb_KS_fr w1 (fun i x y => f2 i (by omega)) a3
    have hC2 : bb_CH D2 L2 g' (bb_Fk D) (D 500 5) := by
      refine ⟨f1, by rw [e62]; exact n2, by rw [e62]; exact n3, n4, fun j j0 j1 => ?_⟩
      rw [e62]
      have sj := bb_sI_e ((D1 62 1 - D 500 5 + j) % 9)
      exact bb_KS_fr (w3 j j0 j1) (fun i x y => f2 i (by omega)) (n5 j j0 j1)
    obtain ⟨D3, e3, k1, k2⟩ := bb_y195 (K := K) (z := z) hw' (bb_WS_mono (by omega) cm.2.2.2 w1) (fun j j0 j1 => bb_WS_mono (by omega) cm.2.2.2 (w3 j j0 j1)) hC2 hn0 hv
    have hfr : ∀ i, (i < 19 ∨ 451 ≤ i) → D3 i = D i ∧ L2 i = L i := fun i hi => by
      refine ⟨?_, ?_⟩
      · rw [k2 i (by omega), (f2 i (by omega)).1, (a4 i (by omega)).1]
      · rw [(f2 i (by omega)).2, (a4 i (by omega)).2]
    obtain ⟨i1, i2⟩ := bb_INV_ok (x := (ab_I v).toInt64) hn h hw' k1 hfr
    have g501 : D3 501 = D 501 := (hfr 501 (by omega)).1
    have g500 : D3 500 = D 500 := (hfr 500 (by omega)).1
    have e4 := bb_ok65 (K := K) (D := D3) (L := ab_u L2 508 0 (ab_I v).toInt64) (z := z) (c := bb_cc n) (by rw [g501]; exact w1) ⟨by rw [g500]; exact w2.2.2.2.1, by rw [g500]; exact .inl h6⟩ cm.2.2.2 hb9 hp9 (by rw [g501]; exact hsp9)
    refine ⟨D3, ab_u L2 508 0 (ab_I v).toInt64, z, bb_row (bb_keep D3 501) 501 g', 0, v, ?_, e4, by omega, i2, fun _ => ab_u_eq, i1, Nat.le_refl _, Nat.le_refl _⟩
    simp (discharger := first | assumption | exact True.intro | exact not_false | (refine ab_gK ?_; with_unfolding_all rfl) | exact ab_rgI (by omega) (by omega) | omega) only [ab_a64, ab_a158, a1, e2, e3, ab_e64_0, ab_e64_1, ab_e64_2, ab_e64_3, ab_e64_4, ab_e64_5, ab_e64_8, ab_e64_9, ab_e64_10, ab_e64_13, ab_e64_15, ab_e64_16, ab_e64_17, ab_e64_18, ab_e158_0, ab_e158_1, ab_e158_4, ab_e158_5, ab_e158_8, ab_e158_11, ab_e158_12, ab_e158_13, ab_e158_16, ab_e158_17, ab_e158_18, ab_e158_21, ab_e158_24, ab_br_t, ab_br_f, ab_re_v (ab_zz _), ab_re_n (ab_zz _)]

theorem bb_op62 {K : ab_Kt} {D : Nat → Int → Int} {L : Nat → Int → Int64} {z : ab_Z} {n : Int} (hn : n < 512) (h : bb_INV n D L z) {b : Int} (hb9 : ab_rg b) : bb_OP K n D L z 62 [.ref 17, .int (ab_I b), .ref 508] 63 [.ref 500, .int (ab_I b)] := by
  have hI := h
  obtain ⟨n1, ⟨w1, w2, w3⟩, -, -, h6, -, -, -⟩ := hI
  have n9 : 0 ≤ n ∧ n < 512 := ⟨n1.1, hn⟩
  have cm := bb_cc_mono n9
  have hsp := ab_sp0
  obtain ⟨D1, L1, a1, a2, a3, a4⟩ := bb_y192 (K := K) (z := z) w1 w3 w2
  have d501 : D1 501 = D 501 := (a4 501 (by omega)).1
  have d500 : D1 500 = D 500 := (a4 500 (by omega)).1
  rcases hsp9 : bb_sp_deliver (D 501) b with ⟨r, d⟩ | ⟨v, g'⟩
  · have e2 := bb_cno217 (K := K) (z := z) w1 a2.1 hb9 hsp9
    have e3 := bb_y195t (K := K) (D := bb_cref D1 r d) (L := L1) (z := z)
    obtain ⟨i1, i2⟩ := bb_INV_no hn h (bb_r_deliver hsp9) a2 a4
    have hrow : bb_cref D1 r d 501 = D 501 := by
      unfold bb_cref
      rw [ab_u_row (by decide), ab_u_row (by decide), ab_u_row (by decide), d501]
    have e4 := bb_no63 (K := K) (D := bb_cref D1 r d) (L := L1) (z := ab_zc (ab_zx z)) (c := bb_cc n) (by rw [hrow]; exact w1) hb9 (by rw [hrow]; exact hsp9)
    refine ⟨bb_cref D1 r d, L1, ab_zc (ab_zx z), bb_ref (bb_cref D1 r d) r d, 1, 0, ?_, e4, by omega, i2, fun x => absurd x (by omega), i1, Nat.le_succ _, Nat.le_add_right _ 6⟩
    simp (discharger := first | assumption | exact True.intro | exact not_false | (refine ab_gK ?_; with_unfolding_all rfl) | exact ab_rgI (by omega) (by omega) | omega) only [ab_a62, ab_a154, a1, e2, e3, ab_re_t (M := 154) (pc := 20) (E := "java/lang/UnsupportedOperationException") (by rfl) (ab_zzx _), ab_re_h (M := 62) (pc := 4) (E := "java/lang/UnsupportedOperationException") (ph := 12) (by rfl) (ab_zzx _), ab_e62_0, ab_e62_1, ab_e62_2, ab_e62_3, ab_e62_4, ab_e62_7, ab_e62_8, ab_e62_9, ab_e62_12, ab_e62_13, ab_e62_14, ab_e62_15, ab_e62_16, ab_e154_0, ab_e154_1, ab_e154_4, ab_e154_5, ab_e154_8, ab_e154_11, ab_e154_12, ab_e154_13, ab_e154_16, ab_e154_17, ab_e154_20, ab_e154_23, ab_br_t, ab_br_f, ab_re_v (ab_zz _), ab_re_n (ab_zz _)]
  · obtain ⟨D2, L2, e2, f1, f2⟩ := bb_cok217 (K := K) (z := z) w1 a2.1 hb9 hsp9
    have hv := bb_v_deliver w1 hsp9
    have hw' := bb_W_deliver w1 cm.2.2.2 hsp9
    have e62 : D2 62 = D1 62 := (f2 62 (by omega)).1
    have s62 := bb_sI_e (D1 62 1)
    obtain ⟨-, n2, n3, n4, n5⟩ := id a2
    have hn0 : bb_KS D2 L2 (ab_sI (D2 62 1)) (D 501) := by
      rw [e62]
      exact bb_KS_fr w1 (fun i x y => f2 i (by omega)) a3
    have hC2 : bb_CH D2 L2 g' (bb_Fk D) (D 500 5) := by
      refine ⟨f1, by rw [e62]; exact n2, by rw [e62]; exact n3, n4, fun j j0 j1 => ?_⟩
      rw [e62]
      have sj := bb_sI_e ((D1 62 1 - D 500 5 + j) % 9)
      exact bb_KS_fr (w3 j j0 j1) (fun i x y => f2 i (by omega)) (n5 j j0 j1)
    obtain ⟨D3, e3, k1, k2⟩ := bb_y195 (K := K) (z := z) hw' (bb_WS_mono (by omega) cm.2.2.2 w1) (fun j j0 j1 => bb_WS_mono (by omega) cm.2.2.2 (w3 j j0 j1)) hC2 hn0 hv
    have hfr : ∀ i, (i < 19 ∨ 451 ≤ i) → D3 i = D i ∧ L2 i = L i := fun i hi => by
      refine ⟨?_, ?_⟩
      · rw [k2 i (by omega), (f2 i (by omega)).1, (a4 i (by omega)).1]
      · rw [(f2 i (by omega)).2, (a4 i (by omega)).2]
    obtain ⟨i1, i2⟩ := bb_INV_ok (x := (ab_I v).toInt64) hn h hw' k1 hfr
    have g501 : D3 501 = D 501 := (hfr 501 (by omega)).1
    have g500 : D3 500 = D 500 := (hfr 500 (by omega)).1
    have e4 := bb_ok63 (K := K) (D := D3) (L := ab_u L2 508 0 (ab_I v).toInt64) (z := z) (c := bb_cc n) (by rw [g501]; exact w1) ⟨by rw [g500]; exact w2.2.2.2.1, by rw [g500]; exact .inl h6⟩ hb9 (by rw [g501]; exact hsp9)
    refine ⟨D3, ab_u L2 508 0 (ab_I v).toInt64, z, bb_row (bb_keep D3 501) 501 g', 0, v, ?_, e4, by omega, i2, fun _ => ab_u_eq, i1, Nat.le_refl _, Nat.le_refl _⟩
    simp (discharger := first | assumption | exact True.intro | exact not_false | (refine ab_gK ?_; with_unfolding_all rfl) | exact ab_rgI (by omega) (by omega) | omega) only [ab_a62, ab_a154, a1, e2, e3, ab_e62_0, ab_e62_1, ab_e62_2, ab_e62_3, ab_e62_4, ab_e62_7, ab_e62_8, ab_e62_9, ab_e62_12, ab_e62_13, ab_e62_14, ab_e62_15, ab_e62_16, ab_e154_0, ab_e154_1, ab_e154_4, ab_e154_5, ab_e154_8, ab_e154_11, ab_e154_12, ab_e154_13, ab_e154_16, ab_e154_17, ab_e154_20, ab_e154_23, ab_br_t, ab_br_f, ab_re_v (ab_zz _), ab_re_n (ab_zz _)]

theorem bb_op60 {K : ab_Kt} {D : Nat → Int → Int} {L : Nat → Int → Int64} {z : ab_Z} {n : Int} (hn : n < 512) (h : bb_INV n D L z) {m : Int} (hm9 : ab_rg m) : bb_OP K n D L z 60 [.ref 17, .int (ab_I m), .ref 508] 61 [.ref 500, .int (ab_I m)] := by
  have hI := h
  obtain ⟨n1, ⟨w1, w2, w3⟩, -, -, h6, -, -, -⟩ := hI
  have n9 : 0 ≤ n ∧ n < 512 := ⟨n1.1, hn⟩
  have cm := bb_cc_mono n9
  have hsp := ab_sp0
  obtain ⟨D1, L1, a1, a2, a3, a4⟩ := bb_y192 (K := K) (z := z) w1 w3 w2
  have d501 : D1 501 = D 501 := (a4 501 (by omega)).1
  have d500 : D1 500 = D 500 := (a4 500 (by omega)).1
  rcases hsp9 : bb_sp_pass (D 501) m with ⟨r, d⟩ | ⟨v, g'⟩
  · have e2 := bb_cno216 (K := K) (z := z) w1 a2.1 cm.2.2.2 hm9 hsp9
    have e3 := bb_y195t (K := K) (D := bb_cref D1 r d) (L := L1) (z := z)
    obtain ⟨i1, i2⟩ := bb_INV_no hn h (bb_r_pass hsp9) a2 a4
    have hrow : bb_cref D1 r d 501 = D 501 := by
      unfold bb_cref
      rw [ab_u_row (by decide), ab_u_row (by decide), ab_u_row (by decide), d501]
    have e4 := bb_no61 (K := K) (D := bb_cref D1 r d) (L := L1) (z := ab_zc (ab_zx z)) (c := bb_cc n) (by rw [hrow]; exact w1) cm.2.2.2 hm9 (by rw [hrow]; exact hsp9)
    refine ⟨bb_cref D1 r d, L1, ab_zc (ab_zx z), bb_ref (bb_cref D1 r d) r d, 1, 0, ?_, e4, by omega, i2, fun x => absurd x (by omega), i1, Nat.le_succ _, Nat.le_add_right _ 6⟩
    simp (discharger := first | assumption | exact True.intro | exact not_false | (refine ab_gK ?_; with_unfolding_all rfl) | exact ab_rgI (by omega) (by omega) | omega) only [ab_a60, ab_a151, a1, e2, e3, ab_re_t (M := 151) (pc := 20) (E := "java/lang/UnsupportedOperationException") (by rfl) (ab_zzx _), ab_re_h (M := 60) (pc := 4) (E := "java/lang/UnsupportedOperationException") (ph := 12) (by rfl) (ab_zzx _), ab_e60_0, ab_e60_1, ab_e60_2, ab_e60_3, ab_e60_4, ab_e60_7, ab_e60_8, ab_e60_9, ab_e60_12, ab_e60_13, ab_e60_14, ab_e60_15, ab_e60_16, ab_e151_0, ab_e151_1, ab_e151_4, ab_e151_5, ab_e151_8, ab_e151_11, ab_e151_12, ab_e151_13, ab_e151_16, ab_e151_17, ab_e151_20, ab_e151_23, ab_br_t, ab_br_f, ab_re_v (ab_zz _), ab_re_n (ab_zz _)]
  · obtain ⟨D2, L2, e2, f1, f2⟩ := bb_cok216 (K := K) (z := z) w1 a2.1 cm.2.2.2 hm9 hsp9
    have hv := bb_v_pass w1 cm.2.2.2 hsp9
    have hw' := bb_W_pass w1 cm.2.2.2 hsp9
    have e62 : D2 62 = D1 62 := (f2 62 (by omega)).1
    have s62 := bb_sI_e (D1 62 1)
    obtain ⟨-, n2, n3, n4, n5⟩ := id a2
    have hn0 : bb_KS D2 L2 (ab_sI (D2 62 1)) (D 501) := by
      rw [e62]
      exact bb_KS_fr w1 (fun i x y => f2 i (by omega)) a3
    have hC2 : bb_CH D2 L2 g' (bb_Fk D) (D 500 5) := by
      refine ⟨f1, by rw [e62]; exact n2, by rw [e62]; exact n3, n4, fun j j0 j1 => ?_⟩
      rw [e62]
      have sj := bb_sI_e ((D1 62 1 - D 500 5 + j) % 9)
      exact bb_KS_fr (w3 j j0 j1) (fun i x y => f2 i (by omega)) (n5 j j0 j1)
    obtain ⟨D3, e3, k1, k2⟩ := bb_y195 (K := K) (z := z) hw' (bb_WS_mono (by omega) cm.2.2.2 w1) (fun j j0 j1 => bb_WS_mono (by omega) cm.2.2.2 (w3 j j0 j1)) hC2 hn0 hv
    have hfr : ∀ i, (i < 19 ∨ 451 ≤ i) → D3 i = D i ∧ L2 i = L i := fun i hi => by
      refine ⟨?_, ?_⟩
      · rw [k2 i (by omega), (f2 i (by omega)).1, (a4 i (by omega)).1]
      · rw [(f2 i (by omega)).2, (a4 i (by omega)).2]
    obtain ⟨i1, i2⟩ := bb_INV_ok (x := (ab_I v).toInt64) hn h hw' k1 hfr
    have g501 : D3 501 = D 501 := (hfr 501 (by omega)).1
    have g500 : D3 500 = D 500 := (hfr 500 (by omega)).1
    have e4 := bb_ok61 (K := K) (D := D3) (L := ab_u L2 508 0 (ab_I v).toInt64) (z := z) (c := bb_cc n) (by rw [g501]; exact w1) ⟨by rw [g500]; exact w2.2.2.2.1, by rw [g500]; exact .inl h6⟩ cm.2.2.2 hm9 (by rw [g501]; exact hsp9)
    refine ⟨D3, ab_u L2 508 0 (ab_I v).toInt64, z, bb_row (bb_keep D3 501) 501 g', 0, v, ?_, e4, by omega, i2, fun _ => ab_u_eq, i1, Nat.le_refl _, Nat.le_refl _⟩
    simp (discharger := first | assumption | exact True.intro | exact not_false | (refine ab_gK ?_; with_unfolding_all rfl) | exact ab_rgI (by omega) (by omega) | omega) only [ab_a60, ab_a151, a1, e2, e3, ab_e60_0, ab_e60_1, ab_e60_2, ab_e60_3, ab_e60_4, ab_e60_7, ab_e60_8, ab_e60_9, ab_e60_12, ab_e60_13, ab_e60_14, ab_e60_15, ab_e60_16, ab_e151_0, ab_e151_1, ab_e151_4, ab_e151_5, ab_e151_8, ab_e151_11, ab_e151_12, ab_e151_13, ab_e151_16, ab_e151_17, ab_e151_20, ab_e151_23, ab_br_t, ab_br_f, ab_re_v (ab_zz _), ab_re_n (ab_zz _)]

