/-! ===== a book of the class ===== -/
/-- the int of a book's fields -/
def ab_IB (D : Nat → Int → Int) (b : Nat) : Prop :=
  (0 ≤ D b 0 ∧ D b 0 ≤ 96) ∧ (0 ≤ D b 1 ∧ D b 1 ≤ 5) ∧ (0 ≤ D b 2 ∧ D b 2 ≤ 4) ∧ (0 ≤ D b 3 ∧ D b 3 ≤ 12) ∧ (0 ≤ D b 4 ∧ D b 4 ≤ D b 3) ∧ (0 ≤ D b 5 ∧ D b 5 ≤ 192) ∧ (-1 ≤ D b 6 ∧ D b 6 ≤ 2) ∧ (0 ≤ D b 7 ∧ D b 7 ≤ 30) ∧
  (∀ s, 0 ≤ s → s < 12 → (0 ≤ D (b + 1) s ∧ D (b + 1) s ≤ 99) ∧ (0 ≤ D (b + 2) s ∧ D (b + 2) s ≤ 114) ∧ (0 ≤ D (b + 3) s ∧ D (b + 3) s ≤ 3) ∧ (D (b + 4) s = 0 ∨ D (b + 4) s = 1)) ∧
  (∀ s, 0 ≤ s → s < D b 3 → D (b + 2) s = D (b + 1) s + ab_pw (D (b + 3) s) - 1 ∧ 1 ≤ D (b + 1) s ∧ 1 ≤ D (b + 3) s)
def ab_sz (D : Nat → Int → Int) (b : Nat) (s : Int) : Int := D (b + 2) s - D (b + 1) s + 1
def ab_lf (D : Nat → Int → Int) (b : Nat) (s i : Int) : Int := if D (b + 4) s = 0 then D (b + 1) s + i else D (b + 2) s - i
/-- positions; the page at p; whether p is wrong -/
def ab_all (D : Nat → Int → Int) (b : Nat) : Int := ab_S (ab_sz D b) (D b 3)
def ab_page (D : Nat → Int → Int) (b : Nat) (p : Int) : Int := ab_pg (ab_sz D b) (ab_lf D b) (D b 3) p
def ab_wr (D : Nat → Int → Int) (b : Nat) (p : Int) : Int := if ab_page D b p = p + 1 ∧ ab_page D b p ≤ D b 0 then 0 else 1
theorem ab_IB_n {D : Nat → Int → Int} {b : Nat} (h : ab_IB D b) : (0 ≤ D b 0 ∧ D b 0 ≤ 96) ∧ (0 ≤ D b 1 ∧ D b 1 ≤ 5) ∧ (0 ≤ D b 2 ∧ D b 2 ≤ 4) ∧ (0 ≤ D b 3 ∧ D b 3 ≤ 12) ∧ (0 ≤ D b 4 ∧ D b 4 ≤ D b 3) ∧ (0 ≤ D b 5 ∧ D b 5 ≤ 192) ∧ (-1 ≤ D b 6 ∧ D b 6 ≤ 2) ∧ (0 ≤ D b 7 ∧ D b 7 ≤ 30) := ⟨h.1, h.2.1, h.2.2.1, h.2.2.2.1, h.2.2.2.2.1, h.2.2.2.2.2.1, h.2.2.2.2.2.2.1, h.2.2.2.2.2.2.2.1⟩
theorem ab_IB_a {D : Nat → Int → Int} {b : Nat} (h : ab_IB D b) {s : Int} (h0 : 0 ≤ s) (h1 : s < 12) : (0 ≤ D (b + 1) s ∧ D (b + 1) s ≤ 99) ∧ (0 ≤ D (b + 2) s ∧ D (b + 2) s ≤ 114) ∧ (0 ≤ D (b + 3) s ∧ D (b + 3) s ≤ 3) ∧ (D (b + 4) s = 0 ∨ D (b + 4) s = 1) := h.2.2.2.2.2.2.2.2.1 s h0 h1
theorem ab_IB_e {D : Nat → Int → Int} {b : Nat} (h : ab_IB D b) {s : Int} (h0 : 0 ≤ s) (h1 : s < D b 3) : D (b + 2) s = D (b + 1) s + ab_pw (D (b + 3) s) - 1 ∧ (1 ≤ D (b + 1) s ∧ D (b + 1) s ≤ 99) ∧ (1 ≤ D (b + 3) s ∧ D (b + 3) s ≤ 3) ∧ (D (b + 4) s = 0 ∨ D (b + 4) s = 1) ∧ ab_sz D b s = D (b + 2) s - D (b + 1) s + 1 ∧ (ab_sz D b s = 4 ∨ ab_sz D b s = 8 ∨ ab_sz D b s = 16) ∧ D (b + 2) s ≤ 114 := by
  have h2 := ab_IB_n h
  have h3 := ab_IB_a h h0 (by omega)
  have h4 := h.2.2.2.2.2.2.2.2.2 s h0 h1
  have e : ab_sz D b s = D (b + 2) s - D (b + 1) s + 1 := rfl
  refine ⟨h4.1, ⟨h4.2.1, h3.1.2⟩, ⟨h4.2.2, h3.2.2.1.2⟩, h3.2.2.2, e, ?_, h3.2.1.2⟩
  have h5 := h4.1
  unfold ab_pw at h5
  omega
theorem ab_IB_s {D : Nat → Int → Int} {b : Nat} (h : ab_IB D b) : ∀ i, 0 ≤ i → i < D b 3 → 0 ≤ ab_sz D b i := fun i h0 h1 => by
  have := ab_IB_e h h0 h1
  omega
theorem ab_IB_S {D : Nat → Int → Int} {b : Nat} (h : ab_IB D b) {s : Int} (h0 : 0 ≤ s) (h1 : s ≤ D b 3) : 0 ≤ ab_S (ab_sz D b) s ∧ ab_S (ab_sz D b) s ≤ 16 * s ∧ ab_S (ab_sz D b) s ≤ 192 ∧ 4 * s ≤ ab_S (ab_sz D b) s := by
  have h2 := ab_IB_n h
  have a := ab_Sle (f := ab_sz D b) (n := s) 16 h0 (fun i x y => by have := ab_IB_e h x (by omega); omega)
  have c := ab_Sge (f := ab_sz D b) (n := s) 4 h0 (fun i x y => by have := ab_IB_e h x (by omega); omega)
  omega
theorem ab_page_at {D : Nat → Int → Int} {b : Nat} (h : ab_IB D b) {s i : Int} (h0 : 0 ≤ s) (h1 : s < D b 3) (h2 : 0 ≤ i) (h3 : i < ab_sz D b s) : ab_page D b (ab_S (ab_sz D b) s + i) = ab_lf D b s i := by
  unfold ab_page
  rw [ab_pg_at (ab_IB_s h) h0 h1 (by omega) (by omega)]
  congr 1
  omega

theorem ab_y231 {K : ab_Kt} {D : Nat → Int → Int} {L : Nat → Int → Int64} {z : ab_Z} {b : Nat} (hb : ab_bk b) {s : Int} (h0 : 0 ≤ s) (h1 : s < 12) : ab_cal K 231 [.ref b, .int (ab_I s)] (ab_mk D L z) = some (.inl (some (.int (ab_I (ab_sz D b s)))), (ab_mk D L z)) := by
  simp (discharger := first | assumption | (refine ab_gK ?_; with_unfolding_all rfl) | exact ab_rgI (by omega) (by omega) | omega) only [ab_a231, ab_e231_0, ab_e231_1, ab_e231_4, ab_e231_5, ab_e231_6, ab_e231_7, ab_e231_10, ab_e231_11, ab_e231_12, ab_e231_13, ab_e231_14, ab_e231_15, ab_br_t, ab_br_f, ab_re_v (ab_zz _), ab_re_n (ab_zz _)]
  rfl

theorem ab_l215 {K : ab_Kt} {D : Nat → Int → Int} {L : Nat → Int → Int64} {z : ab_Z} {b : Nat} (hb : ab_bk b) (n : Int) (h2 : n ≤ 12) (i acc : Int) (h0 : 0 ≤ i) (h1 : i ≤ n) (ha : acc = ab_S (ab_sz D b) i) : ab_ev K 215 4 [some (.ref b), some (.int (ab_I n)), some (.int (ab_I acc)), some (.int (ab_I i))] [] (ab_mk D L z) = some (.inl (some (.int (ab_I (ab_S (ab_sz D b) n)))), (ab_mk D L z)) := by
  rw [ab_e215_4]
  by_cases hc : n ≤ i
  · simp (discharger := first | assumption | (refine ab_gK ?_; with_unfolding_all rfl) | exact ab_rgI (by omega) (by omega) | omega) only [ab_y231, ab_e215_0, ab_e215_1, ab_e215_2, ab_e215_3, ab_e215_5, ab_e215_6, ab_e215_9, ab_e215_10, ab_e215_11, ab_e215_12, ab_e215_15, ab_e215_16, ab_e215_17, ab_e215_20, ab_e215_23, ab_e215_24, ab_br_t, ab_br_f, ab_re_v (ab_zz _), ab_re_n (ab_zz _)]
    exact ab_fin (by rw [ha, show i = n by omega]) rfl
  · simp (discharger := first | assumption | (refine ab_gK ?_; with_unfolding_all rfl) | exact ab_rgI (by omega) (by omega) | omega) only [ab_y231, ab_e215_0, ab_e215_1, ab_e215_2, ab_e215_3, ab_e215_5, ab_e215_6, ab_e215_9, ab_e215_10, ab_e215_11, ab_e215_12, ab_e215_15, ab_e215_16, ab_e215_17, ab_e215_20, ab_e215_23, ab_e215_24, ab_br_t, ab_br_f, ab_re_v (ab_zz _), ab_re_n (ab_zz _)]
    exact ab_l215 hb n h2 (i + 1) _ (by omega) (by omega) (by rw [ab_S1 _ h0, ha])
termination_by (n - i).toNat
decreasing_by omega

theorem ab_y215 {K : ab_Kt} {D : Nat → Int → Int} {L : Nat → Int → Int64} {z : ab_Z} {b : Nat} (hb : ab_bk b) {n : Int} (h0 : 0 ≤ n) (h1 : n ≤ 12) : ab_cal K 215 [.ref b, .int (ab_I n)] (ab_mk D L z) = some (.inl (some (.int (ab_I (ab_S (ab_sz D b) n)))), (ab_mk D L z)) := by
  simp (discharger := first | assumption | (refine ab_gK ?_; with_unfolding_all rfl) | exact ab_rgI (by omega) (by omega) | omega) only [ab_a215, ab_e215_0, ab_e215_1, ab_e215_2, ab_e215_3, ab_e215_5, ab_e215_6, ab_e215_9, ab_e215_10, ab_e215_11, ab_e215_12, ab_e215_15, ab_e215_16, ab_e215_17, ab_e215_20, ab_e215_23, ab_e215_24, ab_br_t, ab_br_f, ab_re_v (ab_zz _), ab_re_n (ab_zz _)]
  exact ab_l215 hb n h1 0 0 (by omega) h0 rfl

theorem ab_y183 {K : ab_Kt} {D : Nat → Int → Int} {L : Nat → Int → Int64} {z : ab_Z} {b : Nat} (hb : ab_bk b) (hI : ab_IB D b) : ab_cal K 183 [.ref b] (ab_mk D L z) = some (.inl (some (.int (ab_I (ab_all D b)))), (ab_mk D L z)) := by
  have hn := ab_IB_n hI
  simp (discharger := first | assumption | (refine ab_gK ?_; with_unfolding_all rfl) | exact ab_rgI (by omega) (by omega) | omega) only [ab_a183, ab_y215, ab_e183_0, ab_e183_1, ab_e183_2, ab_e183_5, ab_e183_8, ab_br_t, ab_br_f, ab_re_v (ab_zz _), ab_re_n (ab_zz _)]
  rfl

theorem ab_y232 {K : ab_Kt} {D : Nat → Int → Int} {L : Nat → Int → Int64} {z : ab_Z} {b : Nat} (hb : ab_bk b) {s i : Int} (h0 : 0 ≤ s) (h1 : s < 12) (ht : D (b + 4) s = 0 ∨ D (b + 4) s = 1) : ab_cal K 232 [.ref b, .int (ab_I s), .int (ab_I i)] (ab_mk D L z) = some (.inl (some (.int (ab_I (ab_lf D b s i)))), (ab_mk D L z)) := by
  simp (discharger := first | assumption | (refine ab_gK ?_; with_unfolding_all rfl) | exact ab_rgI (by omega) (by omega) | omega) only [ab_a232, ab_e232_0, ab_e232_1, ab_e232_4, ab_e232_5, ab_e232_6, ab_e232_9, ab_e232_10, ab_e232_13, ab_e232_14, ab_e232_15, ab_e232_16, ab_e232_17, ab_e232_20, ab_e232_21, ab_e232_24, ab_e232_25, ab_e232_26, ab_e232_27, ab_e232_28, ab_br_t, ab_br_f, ab_re_v (ab_zz _), ab_re_n (ab_zz _)]
  iterate 1 (all_goals (try (refine ab_br_c (fun hc => ?_) (fun hc => ?_) <;> try simp (discharger := first | assumption | (refine ab_gK ?_; with_unfolding_all rfl) | exact ab_rgI (by omega) (by omega) | omega) only [ab_a232, ab_e232_0, ab_e232_1, ab_e232_4, ab_e232_5, ab_e232_6, ab_e232_9, ab_e232_10, ab_e232_13, ab_e232_14, ab_e232_15, ab_e232_16, ab_e232_17, ab_e232_20, ab_e232_21, ab_e232_24, ab_e232_25, ab_e232_26, ab_e232_27, ab_e232_28, ab_br_t, ab_br_f, ab_re_v (ab_zz _), ab_re_n (ab_zz _)])))
  · exact ab_fin (by unfold ab_lf; rw [if_pos hc]) rfl
  · exact ab_fin (by unfold ab_lf; rw [if_neg hc]) rfl

theorem ab_y233 {K : ab_Kt} {D : Nat → Int → Int} {L : Nat → Int → Int64} {z : ab_Z} {b : Nat} (hb : ab_bk b) (hI : ab_IB D b) {p q : Int} (h0 : -1 ≤ p) (h1 : p ≤ 1000000000) (h2 : -1000 ≤ q) (h3 : q ≤ 1000) : ab_cal K 233 [.ref b, .int (ab_I p), .int (ab_I q)] (ab_mk D L z) = some (.inl (some (.int (ab_I (if q = p + 1 ∧ q ≤ D b 0 then 1 else 0)))), (ab_mk D L z)) := by
  have hn := ab_IB_n hI
  simp (discharger := first | assumption | (refine ab_gK ?_; with_unfolding_all rfl) | exact ab_rgI (by omega) (by omega) | omega) only [ab_a233, ab_e233_0, ab_e233_1, ab_e233_2, ab_e233_3, ab_e233_4, ab_e233_7, ab_e233_8, ab_e233_9, ab_e233_12, ab_e233_15, ab_e233_16, ab_e233_19, ab_e233_20, ab_br_t, ab_br_f, ab_re_v (ab_zz _), ab_re_n (ab_zz _)]
  iterate 2 (all_goals (try (refine ab_br_c (fun hc => ?_) (fun hc => ?_) <;> try simp (discharger := first | assumption | (refine ab_gK ?_; with_unfolding_all rfl) | exact ab_rgI (by omega) (by omega) | omega) only [ab_a233, ab_e233_0, ab_e233_1, ab_e233_2, ab_e233_3, ab_e233_4, ab_e233_7, ab_e233_8, ab_e233_9, ab_e233_12, ab_e233_15, ab_e233_16, ab_e233_19, ab_e233_20, ab_br_t, ab_br_f, ab_re_v (ab_zz _), ab_re_n (ab_zz _)])))
  all_goals exact ab_fin (by first | rw [if_pos ⟨by omega, by omega⟩] | rw [if_neg (by omega)]) rfl

theorem ab_l214 {K : ab_Kt} {D : Nat → Int → Int} {L : Nat → Int → Int64} {z : ab_Z} {b : Nat} (hb : ab_bk b) (hI : ab_IB D b) (p : Int) (hp : 0 ≤ p) (hp2 : p < 2147483648) (x4 : Option Value) (i acc : Int) (h0 : 0 ≤ i) (h1 : i ≤ D b 3) (ha : acc = ab_S (ab_sz D b) i) (h2 : acc ≤ p) : ab_ev K 214 10 [some (.ref b), some (.int (ab_I p)), some (.int (ab_I acc)), some (.int (ab_I i)), x4] [] (ab_mk D L z) = some (.inl (some (.int (ab_I (ab_page D b p)))), (ab_mk D L z)) := by
  have hn := ab_IB_n hI
  have hS := ab_IB_S hI h0 h1
  rw [ab_e214_10]
  by_cases hc : D b 3 ≤ i
  · simp (discharger := first | assumption | (refine ab_gK ?_; with_unfolding_all rfl) | exact ab_rgI (by omega) (by omega) | omega) only [ab_y231, ab_e214_0, ab_e214_1, ab_e214_4, ab_e214_5, ab_e214_6, ab_e214_7, ab_e214_8, ab_e214_9, ab_e214_11, ab_e214_12, ab_e214_15, ab_e214_18, ab_e214_19, ab_e214_20, ab_e214_23, ab_e214_25, ab_e214_26, ab_e214_27, ab_e214_29, ab_e214_30, ab_e214_33, ab_e214_34, ab_e214_35, ab_e214_36, ab_e214_37, ab_e214_38, ab_e214_41, ab_e214_42, ab_e214_43, ab_e214_45, ab_e214_46, ab_e214_47, ab_e214_50, ab_e214_53, ab_e214_54, ab_br_t, ab_br_f, ab_re_v (ab_zz _), ab_re_n (ab_zz _)]
    exact ab_fin (by unfold ab_page; rw [ab_pg_no hn.2.2.2.1.1 (ab_IB_s hI) (by rw [show D b 3 = i by omega, ← ha]; omega)]) rfl
  · have he := ab_IB_e hI h0 (by omega)
    by_cases hd : acc + ab_sz D b i ≤ p
    · simp (discharger := first | assumption | (refine ab_gK ?_; with_unfolding_all rfl) | exact ab_rgI (by omega) (by omega) | omega) only [ab_y231, ab_y232, ab_e214_0, ab_e214_1, ab_e214_4, ab_e214_5, ab_e214_6, ab_e214_7, ab_e214_8, ab_e214_9, ab_e214_11, ab_e214_12, ab_e214_15, ab_e214_18, ab_e214_19, ab_e214_20, ab_e214_23, ab_e214_25, ab_e214_26, ab_e214_27, ab_e214_29, ab_e214_30, ab_e214_33, ab_e214_34, ab_e214_35, ab_e214_36, ab_e214_37, ab_e214_38, ab_e214_41, ab_e214_42, ab_e214_43, ab_e214_45, ab_e214_46, ab_e214_47, ab_e214_50, ab_e214_53, ab_e214_54, ab_br_t, ab_br_f, ab_re_v (ab_zz _), ab_re_n (ab_zz _)]
      exact ab_l214 hb hI p hp hp2 _ (i + 1) _ (by omega) (by omega) (by rw [ab_S1 _ h0, ha]) hd
    · simp (discharger := first | assumption | (refine ab_gK ?_; with_unfolding_all rfl) | exact ab_rgI (by omega) (by omega) | omega) only [ab_y231, ab_y232, ab_e214_0, ab_e214_1, ab_e214_4, ab_e214_5, ab_e214_6, ab_e214_7, ab_e214_8, ab_e214_9, ab_e214_11, ab_e214_12, ab_e214_15, ab_e214_18, ab_e214_19, ab_e214_20, ab_e214_23, ab_e214_25, ab_e214_26, ab_e214_27, ab_e214_29, ab_e214_30, ab_e214_33, ab_e214_34, ab_e214_35, ab_e214_36, ab_e214_37, ab_e214_38, ab_e214_41, ab_e214_42, ab_e214_43, ab_e214_45, ab_e214_46, ab_e214_47, ab_e214_50, ab_e214_53, ab_e214_54, ab_br_t, ab_br_f, ab_re_v (ab_zz _), ab_re_n (ab_zz _)]
      exact ab_fin (by unfold ab_page; rw [ab_pg_at (ab_IB_s hI) h0 (by omega) (by omega) (by omega), ha]) rfl
termination_by (D b 3 - i).toNat
decreasing_by omega

theorem ab_y214 {K : ab_Kt} {D : Nat → Int → Int} {L : Nat → Int → Int64} {z : ab_Z} {b : Nat} (hb : ab_bk b) (hI : ab_IB D b) {p : Int} (hp : ab_rg p) : ab_cal K 214 [.ref b, .int (ab_I p)] (ab_mk D L z) = some (.inl (some (.int (ab_I (ab_page D b p)))), (ab_mk D L z)) := by
  have hn := ab_IB_n hI
  have hp1 := hp.1
  have hp2 := hp.2
  simp (discharger := first | assumption | (refine ab_gK ?_; with_unfolding_all rfl) | exact ab_rgI (by omega) (by omega) | omega) only [ab_a214, ab_e214_0, ab_e214_1, ab_e214_4, ab_e214_5, ab_e214_6, ab_e214_7, ab_e214_8, ab_e214_9, ab_e214_11, ab_e214_12, ab_e214_15, ab_e214_18, ab_e214_19, ab_e214_20, ab_e214_23, ab_e214_25, ab_e214_26, ab_e214_27, ab_e214_29, ab_e214_30, ab_e214_33, ab_e214_34, ab_e214_35, ab_e214_36, ab_e214_37, ab_e214_38, ab_e214_41, ab_e214_42, ab_e214_43, ab_e214_45, ab_e214_46, ab_e214_47, ab_e214_50, ab_e214_53, ab_e214_54, ab_br_t, ab_br_f, ab_re_v (ab_zz _), ab_re_n (ab_zz _)]
  iterate 1 (all_goals (try (refine ab_br_c (fun hc => ?_) (fun hc => ?_) <;> try simp (discharger := first | assumption | (refine ab_gK ?_; with_unfolding_all rfl) | exact ab_rgI (by omega) (by omega) | omega) only [ab_a214, ab_e214_0, ab_e214_1, ab_e214_4, ab_e214_5, ab_e214_6, ab_e214_7, ab_e214_8, ab_e214_9, ab_e214_11, ab_e214_12, ab_e214_15, ab_e214_18, ab_e214_19, ab_e214_20, ab_e214_23, ab_e214_25, ab_e214_26, ab_e214_27, ab_e214_29, ab_e214_30, ab_e214_33, ab_e214_34, ab_e214_35, ab_e214_36, ab_e214_37, ab_e214_38, ab_e214_41, ab_e214_42, ab_e214_43, ab_e214_45, ab_e214_46, ab_e214_47, ab_e214_50, ab_e214_53, ab_e214_54, ab_br_t, ab_br_f, ab_re_v (ab_zz _), ab_re_n (ab_zz _)])))
  · exact ab_l214 hb hI p hc hp2 _ 0 0 (by omega) (by omega) rfl hc
  · exact ab_fin (by unfold ab_page; rw [ab_pg_no hn.2.2.2.1.1 (ab_IB_s hI) (.inl (by omega))]) rfl
