/-! ===== the reader of the model ===== -/
def bb_M (D : Nat → Int → Int) (a q : Int) (T : Int → Int) : Nat → Int → Int := bb_row (bb_row D 500 (fun j => if j = 16 then a else if j = 18 then q else D 500 j)) 507 T
section
variable {D : Nat → Int → Int} {a q v j : Int} {T : Int → Int}
theorem bb_M500 : bb_M D a q T 500 = fun j => if j = 16 then a else if j = 18 then q else D 500 j := by
  unfold bb_M
  rw [bb_row_ne (by decide), bb_row_eq]
theorem bb_M507 : bb_M D a q T 507 = T := bb_row_eq
theorem bb_Mrow {i : Nat} (h : i ≠ 500) (h2 : i ≠ 507) : bb_M D a q T i = D i := by
  unfold bb_M
  rw [bb_row_ne h2, bb_row_ne h]
theorem bb_M505 : bb_M D a q T 505 = D 505 := bb_Mrow (by decide) (by decide)
theorem bb_M5 (h : j ≠ 16) (h2 : j ≠ 18) : bb_M D a q T 500 j = D 500 j := by
  rw [bb_M500]
  exact (if_neg h).trans (if_neg h2)
theorem bb_M12 : bb_M D a q T 500 12 = D 500 12 := bb_M5 (by decide) (by decide)
theorem bb_M16 : bb_M D a q T 500 16 = a := by rw [bb_M500]; rfl
theorem bb_M18 : bb_M D a q T 500 18 = q := by rw [bb_M500]; rfl
theorem bb_Mself : D = bb_M D (D 500 16) (D 500 18) (D 507) := by
  funext i
  by_cases h : i = 507
  · rw [h, bb_M507]
  · by_cases h2 : i = 500
    · rw [h2, bb_M500]
      funext j
      by_cases x : j = 16
      · rw [if_pos x, x]
      by_cases y : j = 18
      · rw [if_neg x, if_pos y, y]
      · rw [if_neg x, if_neg y]
    · rw [bb_Mrow h2 h]
theorem bb_V16 : ab_u (bb_M D a q T) 500 16 v = bb_M D v q T := by
  funext i
  by_cases h2 : i = 500
  · subst h2
    funext j
    rw [ab_u_if, bb_M500, bb_M500]
    by_cases x : j = 16
    · rw [if_pos x, x]; rfl
    · rw [if_neg x]
      simp only [if_neg x]
  · rw [ab_u_row h2]
    by_cases h : i = 507
    · rw [h, bb_M507, bb_M507]
    · rw [bb_Mrow h2 h, bb_Mrow h2 h]
theorem bb_V18 : ab_u (bb_M D a q T) 500 18 v = bb_M D a v T := by
  funext i
  by_cases h2 : i = 500
  · subst h2
    funext j
    rw [ab_u_if, bb_M500, bb_M500]
    by_cases x : j = 18
    · rw [if_pos x, x]; rfl
    · rw [if_neg x]
      simp only [if_neg x]
  · rw [ab_u_row h2]
    by_cases h : i = 507
    · rw [h, bb_M507, bb_M507]
    · rw [bb_Mrow h2 h, bb_Mrow h2 h]
theorem bb_V507 : ab_u (bb_M D a q T) 507 j v = bb_M D a q (bb_g1 T j v) := by
  rw [bb_u_row, bb_M507]
  unfold bb_M
  rw [bb_row_row]
theorem bb_g1_g1 {w : Int} : bb_g1 (bb_g1 T j v) j w = bb_g1 T j w := by
  funext i
  by_cases h : i = j
  · rw [h, bb_g1_eq, bb_g1_eq]
  · rw [bb_g1_ne h, bb_g1_ne h, bb_g1_ne h]
end
/-- the characters of the model are c, n of them -/
def bb_Y (D : Nat → Int → Int) (c : Int → Int) (n : Int) : Prop := (0 ≤ n ∧ n ≤ 60) ∧ D 500 12 = n ∧ ∀ j, 0 ≤ j → j < n → D 505 j = c j ∧ 0 ≤ c j ∧ c j ≤ 65535
theorem bb_y245 {K : ab_Kt} {D : Nat → Int → Int} {L : Nat → Int → Int64} {z : ab_Z} {c : Int → Int} {n : Int} (hY : bb_Y D c n) {q p : Int} {T : Int → Int} (p0 : 0 ≤ p) (pn : p < n) : ab_cal K 245 [.ref 500] (ab_mk (bb_M D (p) (q) T) L z) = some (.inl (some (.int (ab_I (c p)))), ab_mk (bb_M D (p) (q) T) L z) := by
  obtain ⟨⟨n0, n60⟩, y1, y2⟩ := id hY
  have hcj : ∀ j, 0 ≤ j → j < n → D 505 j = c j := fun j a b => (y2 j a b).1
  have hc1 : ∀ j, 0 ≤ j → j < n → ab_rg (c j) := fun j a b => ab_rgI (by have := (y2 j a b).2.1; omega) (by have := (y2 j a b).2.2; omega)
  simp (discharger := first | assumption | exact True.intro | exact not_false | (refine ab_gK ?_; with_unfolding_all rfl) | exact ab_rgI (by omega) (by omega) | omega) only [ab_a245, y1, hcj, bb_M12, bb_M16, bb_M18, bb_M505, bb_M507, bb_V16, bb_V18, bb_V507, ab_e245_0, ab_e245_1, ab_e245_4, ab_e245_5, ab_e245_8, ab_e245_11, ab_e245_12, ab_e245_15, ab_e245_16, ab_e245_19, ab_e245_20, ab_e245_23, ab_e245_24, ab_br_t, ab_br_f, ab_re_v (ab_zz _), ab_re_n (ab_zz _)]

theorem bb_y245t {K : ab_Kt} {D : Nat → Int → Int} {L : Nat → Int → Int64} {z : ab_Z} {c : Int → Int} {n : Int} (hY : bb_Y D c n) {q p : Int} {T : Int → Int} (p0 : 0 ≤ p) (pn : p ≤ n) (h : ¬ p < n) : ab_cal K 245 [.ref 500] (ab_mk (bb_M D (p) (q) T) L z) = some (.inl (some (.int (ab_I (-1)))), ab_mk (bb_M D (p) (q) T) L z) := by
  obtain ⟨⟨n0, n60⟩, y1, y2⟩ := id hY
  have hcj : ∀ j, 0 ≤ j → j < n → D 505 j = c j := fun j a b => (y2 j a b).1
  have hc1 : ∀ j, 0 ≤ j → j < n → ab_rg (c j) := fun j a b => ab_rgI (by have := (y2 j a b).2.1; omega) (by have := (y2 j a b).2.2; omega)
  simp (discharger := first | assumption | exact True.intro | exact not_false | (refine ab_gK ?_; with_unfolding_all rfl) | exact ab_rgI (by omega) (by omega) | omega) only [ab_a245, y1, hcj, bb_M12, bb_M16, bb_M18, bb_M505, bb_M507, bb_V16, bb_V18, bb_V507, ab_e245_0, ab_e245_1, ab_e245_4, ab_e245_5, ab_e245_8, ab_e245_11, ab_e245_12, ab_e245_15, ab_e245_16, ab_e245_19, ab_e245_20, ab_e245_23, ab_e245_24, ab_br_t, ab_br_f, ab_re_v (ab_zz _), ab_re_n (ab_zz _)]

theorem bb_y197 {K : ab_Kt} {D : Nat → Int → Int} {L : Nat → Int → Int64} {z : ab_Z} {c : Int → Int} {n : Int} (hY : bb_Y D c n) {q p : Int} {T : Int → Int} (p0 : 0 ≤ p) (pn : p ≤ n) {x : Int} (hx : 0 ≤ x ∧ x < 1000) (h : (p < n ∧ c (p) = x)) : ab_cal K 197 [.ref 500, .int (ab_I x)] (ab_mk (bb_M D (p) (q) T) L z) = some (.inl (some (.int (ab_I (1)))), ab_mk (bb_M D (p + 1) (q) T) L z) := by
  obtain ⟨⟨n0, n60⟩, y1, y2⟩ := id hY
  have hcj : ∀ j, 0 ≤ j → j < n → D 505 j = c j := fun j a b => (y2 j a b).1
  have hc1 : ∀ j, 0 ≤ j → j < n → ab_rg (c j) := fun j a b => ab_rgI (by have := (y2 j a b).2.1; omega) (by have := (y2 j a b).2.2; omega)
  have hcp := hc1 p p0 h.1
  have h2 := h.2
  simp (discharger := first | assumption | exact True.intro | exact not_false | (refine ab_gK ?_; with_unfolding_all rfl) | exact ab_rgI (by omega) (by omega) | omega) only [ab_a197, y1, hcj, bb_y245 hY p0 h.1, bb_M12, bb_M16, bb_M18, bb_M505, bb_M507, bb_V16, bb_V18, bb_V507, ab_e197_0, ab_e197_1, ab_e197_4, ab_e197_5, ab_e197_8, ab_e197_9, ab_e197_10, ab_e197_11, ab_e197_12, ab_e197_15, ab_e197_16, ab_e197_17, ab_e197_20, ab_e197_21, ab_br_t, ab_br_f, ab_re_v (ab_zz _), ab_re_n (ab_zz _)]

theorem bb_y197t {K : ab_Kt} {D : Nat → Int → Int} {L : Nat → Int → Int64} {z : ab_Z} {c : Int → Int} {n : Int} (hY : bb_Y D c n) {q p : Int} {T : Int → Int} (p0 : 0 ≤ p) (pn : p ≤ n) {x : Int} (hx : 0 ≤ x ∧ x < 1000) (h : ¬ (p < n ∧ c (p) = x)) : ab_cal K 197 [.ref 500, .int (ab_I x)] (ab_mk (bb_M D (p) (q) T) L z) = some (.inl (some (.int (ab_I (0)))), ab_mk (bb_M D (p) (q) T) L z) := by
  obtain ⟨⟨n0, n60⟩, y1, y2⟩ := id hY
  have hcj : ∀ j, 0 ≤ j → j < n → D 505 j = c j := fun j a b => (y2 j a b).1
  have hc1 : ∀ j, 0 ≤ j → j < n → ab_rg (c j) := fun j a b => ab_rgI (by have := (y2 j a b).2.1; omega) (by have := (y2 j a b).2.2; omega)
  by_cases h1 : p < n
  · have h2 : ¬ c p = x := fun e => h ⟨h1, e⟩
    have hcp := hc1 p p0 h1
    simp (discharger := first | assumption | exact True.intro | exact not_false | (refine ab_gK ?_; with_unfolding_all rfl) | exact ab_rgI (by omega) (by omega) | omega) only [ab_a197, y1, hcj, bb_y245 hY p0 h1, bb_M12, bb_M16, bb_M18, bb_M505, bb_M507, bb_V16, bb_V18, bb_V507, ab_e197_0, ab_e197_1, ab_e197_4, ab_e197_5, ab_e197_8, ab_e197_9, ab_e197_10, ab_e197_11, ab_e197_12, ab_e197_15, ab_e197_16, ab_e197_17, ab_e197_20, ab_e197_21, ab_br_t, ab_br_f, ab_re_v (ab_zz _), ab_re_n (ab_zz _)]
  · skip
    simp (discharger := first | assumption | exact True.intro | exact not_false | (refine ab_gK ?_; with_unfolding_all rfl) | exact ab_rgI (by omega) (by omega) | omega) only [ab_a197, y1, hcj, bb_y245t hY p0 pn h1, bb_M12, bb_M16, bb_M18, bb_M505, bb_M507, bb_V16, bb_V18, bb_V507, ab_e197_0, ab_e197_1, ab_e197_4, ab_e197_5, ab_e197_8, ab_e197_9, ab_e197_10, ab_e197_11, ab_e197_12, ab_e197_15, ab_e197_16, ab_e197_17, ab_e197_20, ab_e197_21, ab_br_t, ab_br_f, ab_re_v (ab_zz _), ab_re_n (ab_zz _)]

theorem bb_y247t {K : ab_Kt} {D : Nat → Int → Int} {L : Nat → Int → Int64} {z : ab_Z} {c : Int → Int} {n : Int} (hY : bb_Y D c n) {q p : Int} {T : Int → Int} (p0 : 0 ≤ p) (pn : p ≤ n) {x m : Int} (h : ¬ (p < n ∧ 48 ≤ c (p) ∧ c (p) ≤ 57)) : ab_cal K 247 [.ref 500, .int (ab_I x), .int (ab_I m)] (ab_mk (bb_M D (p) (q) T) L z) = some (.inl (some (.int (ab_I (0)))), ab_mk (bb_M D (p) (q) T) L z) := by
  obtain ⟨⟨n0, n60⟩, y1, y2⟩ := id hY
  have hcj : ∀ j, 0 ≤ j → j < n → D 505 j = c j := fun j a b => (y2 j a b).1
  have hc1 : ∀ j, 0 ≤ j → j < n → ab_rg (c j) := fun j a b => ab_rgI (by have := (y2 j a b).2.1; omega) (by have := (y2 j a b).2.2; omega)
  by_cases h1 : p < n
  · have h2 : ¬ (48 ≤ c p ∧ c p ≤ 57) := fun e => h ⟨h1, e⟩
    have hcp := hc1 p p0 h1
    simp (discharger := first | assumption | exact True.intro | exact not_false | (refine ab_gK ?_; with_unfolding_all rfl) | exact ab_rgI (by omega) (by omega) | omega) only [ab_a247, y1, hcj, bb_y245 hY p0 h1, ab_y97, if_neg h2, bb_M12, bb_M16, bb_M18, bb_M505, bb_M507, bb_V16, bb_V18, bb_V507, ab_e247_0, ab_e247_1, ab_e247_4, ab_e247_6, ab_e247_8, ab_e247_11, ab_e247_14, ab_e247_15, ab_e247_16, ab_e247_17, ab_e247_20, ab_e247_21, ab_e247_22, ab_e247_23, ab_e247_24, ab_e247_25, ab_e247_26, ab_e247_27, ab_e247_30, ab_e247_31, ab_e247_34, ab_e247_36, ab_e247_38, ab_e247_41, ab_e247_44, ab_e247_45, ab_e247_48, ab_e247_49, ab_e247_51, ab_e247_52, ab_e247_55, ab_e247_56, ab_e247_57, ab_e247_58, ab_e247_59, ab_e247_62, ab_e247_63, ab_e247_65, ab_e247_66, ab_e247_67, ab_e247_68, ab_e247_69, ab_e247_72, ab_e247_73, ab_e247_74, ab_e247_77, ab_e247_80, ab_e247_83, ab_e247_84, ab_br_t, ab_br_f, ab_re_v (ab_zz _), ab_re_n (ab_zz _)]
  · have h2 : ¬ ((48 : Int) ≤ -1 ∧ (-1 : Int) ≤ 57) := by decide
    simp (discharger := first | assumption | exact True.intro | exact not_false | (refine ab_gK ?_; with_unfolding_all rfl) | exact ab_rgI (by omega) (by omega) | omega) only [ab_a247, y1, hcj, bb_y245t hY p0 pn h1, ab_y97, if_neg h2, bb_M12, bb_M16, bb_M18, bb_M505, bb_M507, bb_V16, bb_V18, bb_V507, ab_e247_0, ab_e247_1, ab_e247_4, ab_e247_6, ab_e247_8, ab_e247_11, ab_e247_14, ab_e247_15, ab_e247_16, ab_e247_17, ab_e247_20, ab_e247_21, ab_e247_22, ab_e247_23, ab_e247_24, ab_e247_25, ab_e247_26, ab_e247_27, ab_e247_30, ab_e247_31, ab_e247_34, ab_e247_36, ab_e247_38, ab_e247_41, ab_e247_44, ab_e247_45, ab_e247_48, ab_e247_49, ab_e247_51, ab_e247_52, ab_e247_55, ab_e247_56, ab_e247_57, ab_e247_58, ab_e247_59, ab_e247_62, ab_e247_63, ab_e247_65, ab_e247_66, ab_e247_67, ab_e247_68, ab_e247_69, ab_e247_72, ab_e247_73, ab_e247_74, ab_e247_77, ab_e247_80, ab_e247_83, ab_e247_84, ab_br_t, ab_br_f, ab_re_v (ab_zz _), ab_re_n (ab_zz _)]

theorem bb_y247a {K : ab_Kt} {D : Nat → Int → Int} {L : Nat → Int → Int64} {z : ab_Z} {c : Int → Int} {n : Int} (hY : bb_Y D c n) {q p : Int} {T : Int → Int} (p0 : 0 ≤ p) (pn : p ≤ n) {x : Int} (x0 : 0 ≤ x) (x1 : x < 160) (h : (p < n ∧ 48 ≤ c (p) ∧ c (p) ≤ 57)) : ab_cal K 247 [.ref 500, .int (ab_I x), .int (ab_I 1)] (ab_mk (bb_M D (p) (q) T) L z) = some (.inl (some (.int (ab_I (1)))), ab_mk (bb_M D (p + 1) (q) (bb_g1 T x (c p - 48))) L z) := by
  obtain ⟨⟨n0, n60⟩, y1, y2⟩ := id hY
  have hcj : ∀ j, 0 ≤ j → j < n → D 505 j = c j := fun j a b => (y2 j a b).1
  have hc1 : ∀ j, 0 ≤ j → j < n → ab_rg (c j) := fun j a b => ab_rgI (by have := (y2 j a b).2.1; omega) (by have := (y2 j a b).2.2; omega)
  have h1 := h.1
  have h2 := h.2
  have hcp := hc1 p p0 h1
  have e : 10 * (0 : Int) + c p - 48 = c p - 48 := by omega
  simp (discharger := first | assumption | exact True.intro | exact not_false | (refine ab_gK ?_; with_unfolding_all rfl) | exact ab_rgI (by omega) (by omega) | omega) only [ab_a247, y1, ab_y97, bb_y245 hY p0 h1, if_pos h2, e, bb_M12, bb_M16, bb_M18, bb_M505, bb_M507, bb_V16, bb_V18, bb_V507, bb_g1_g1, bb_g1_eq, ab_e247_0, ab_e247_1, ab_e247_4, ab_e247_6, ab_e247_8, ab_e247_11, ab_e247_14, ab_e247_15, ab_e247_16, ab_e247_17, ab_e247_20, ab_e247_21, ab_e247_22, ab_e247_23, ab_e247_24, ab_e247_25, ab_e247_26, ab_e247_27, ab_e247_30, ab_e247_31, ab_e247_34, ab_e247_36, ab_e247_38, ab_e247_41, ab_e247_44, ab_e247_45, ab_e247_48, ab_e247_49, ab_e247_51, ab_e247_52, ab_e247_55, ab_e247_56, ab_e247_57, ab_e247_58, ab_e247_59, ab_e247_62, ab_e247_63, ab_e247_65, ab_e247_66, ab_e247_67, ab_e247_68, ab_e247_69, ab_e247_72, ab_e247_73, ab_e247_74, ab_e247_77, ab_e247_80, ab_e247_83, ab_e247_84, ab_br_t, ab_br_f, ab_re_v (ab_zz _), ab_re_n (ab_zz _)]

theorem bb_y247b {K : ab_Kt} {D : Nat → Int → Int} {L : Nat → Int → Int64} {z : ab_Z} {c : Int → Int} {n : Int} (hY : bb_Y D c n) {q p : Int} {T : Int → Int} (p0 : 0 ≤ p) (pn : p ≤ n) {x : Int} (x0 : 0 ≤ x) (x1 : x < 160) (h : (p < n ∧ 48 ≤ c (p) ∧ c (p) ≤ 57)) : ab_cal K 247 [.ref 500, .int (ab_I x), .int (ab_I 2)] (ab_mk (bb_M D (p) (q) T) L z) = some (.inl (some (.int (ab_I (1)))), ab_mk (bb_M D (bb_nP c n p) (q) (bb_g1 T x (bb_nV c n p))) L z) := by
  obtain ⟨⟨n0, n60⟩, y1, y2⟩ := id hY
  have hcj : ∀ j, 0 ≤ j → j < n → D 505 j = c j := fun j a b => (y2 j a b).1
  have hc1 : ∀ j, 0 ≤ j → j < n → ab_rg (c j) := fun j a b => ab_rgI (by have := (y2 j a b).2.1; omega) (by have := (y2 j a b).2.2; omega)
  have h1 := h.1
  have h2 := h.2
  have hcp := hc1 p p0 h1
  have e : 10 * (0 : Int) + c p - 48 = c p - 48 := by omega
  have p1 : 0 ≤ p + 1 := by omega
  have p1n : p + 1 ≤ n := by omega
  by_cases h3 : (p + 1 < n ∧ 48 ≤ c (p + 1) ∧ c (p + 1) ≤ 57)
  · rw [show bb_nP c n p = p + 1 + 1 from (if_pos h3).trans (by omega), show bb_nV c n p = 10 * (c p - 48) + c (p + 1) - 48 from (if_pos h3).trans (by omega)]
    have h4 := h3.1
    have h5 := h3.2
    have hcq := hc1 (p + 1) p1 h4
    simp (discharger := first | assumption | exact True.intro | exact not_false | (refine ab_gK ?_; with_unfolding_all rfl) | exact ab_rgI (by omega) (by omega) | omega) only [ab_a247, y1, ab_y97, bb_y245 hY p0 h1, if_pos h2, e, bb_y245 hY p1 h4, if_pos h5, bb_M12, bb_M16, bb_M18, bb_M505, bb_M507, bb_V16, bb_V18, bb_V507, bb_g1_g1, bb_g1_eq, ab_e247_0, ab_e247_1, ab_e247_4, ab_e247_6, ab_e247_8, ab_e247_11, ab_e247_14, ab_e247_15, ab_e247_16, ab_e247_17, ab_e247_20, ab_e247_21, ab_e247_22, ab_e247_23, ab_e247_24, ab_e247_25, ab_e247_26, ab_e247_27, ab_e247_30, ab_e247_31, ab_e247_34, ab_e247_36, ab_e247_38, ab_e247_41, ab_e247_44, ab_e247_45, ab_e247_48, ab_e247_49, ab_e247_51, ab_e247_52, ab_e247_55, ab_e247_56, ab_e247_57, ab_e247_58, ab_e247_59, ab_e247_62, ab_e247_63, ab_e247_65, ab_e247_66, ab_e247_67, ab_e247_68, ab_e247_69, ab_e247_72, ab_e247_73, ab_e247_74, ab_e247_77, ab_e247_80, ab_e247_83, ab_e247_84, ab_br_t, ab_br_f, ab_re_v (ab_zz _), ab_re_n (ab_zz _)]
  · rw [show bb_nP c n p = p + 1 from if_neg h3, show bb_nV c n p = c p - 48 from if_neg h3]
    by_cases h8 : p + 1 < n
    · have h9 : ¬ (48 ≤ c (p + 1) ∧ c (p + 1) ≤ 57) := fun e => h3 ⟨h8, e⟩
      have hcq := hc1 (p + 1) p1 h8
      simp (discharger := first | assumption | exact True.intro | exact not_false | (refine ab_gK ?_; with_unfolding_all rfl) | exact ab_rgI (by omega) (by omega) | omega) only [ab_a247, y1, ab_y97, bb_y245 hY p0 h1, if_pos h2, e, bb_y245 hY p1 h8, if_neg h9, bb_M12, bb_M16, bb_M18, bb_M505, bb_M507, bb_V16, bb_V18, bb_V507, bb_g1_g1, bb_g1_eq, ab_e247_0, ab_e247_1, ab_e247_4, ab_e247_6, ab_e247_8, ab_e247_11, ab_e247_14, ab_e247_15, ab_e247_16, ab_e247_17, ab_e247_20, ab_e247_21, ab_e247_22, ab_e247_23, ab_e247_24, ab_e247_25, ab_e247_26, ab_e247_27, ab_e247_30, ab_e247_31, ab_e247_34, ab_e247_36, ab_e247_38, ab_e247_41, ab_e247_44, ab_e247_45, ab_e247_48, ab_e247_49, ab_e247_51, ab_e247_52, ab_e247_55, ab_e247_56, ab_e247_57, ab_e247_58, ab_e247_59, ab_e247_62, ab_e247_63, ab_e247_65, ab_e247_66, ab_e247_67, ab_e247_68, ab_e247_69, ab_e247_72, ab_e247_73, ab_e247_74, ab_e247_77, ab_e247_80, ab_e247_83, ab_e247_84, ab_br_t, ab_br_f, ab_re_v (ab_zz _), ab_re_n (ab_zz _)]
    · have h9 : ¬ ((48 : Int) ≤ -1 ∧ (-1 : Int) ≤ 57) := by decide
      simp (discharger := first | assumption | exact True.intro | exact not_false | (refine ab_gK ?_; with_unfolding_all rfl) | exact ab_rgI (by omega) (by omega) | omega) only [ab_a247, y1, ab_y97, bb_y245 hY p0 h1, if_pos h2, e, bb_y245t hY p1 p1n h8, if_neg h9, bb_M12, bb_M16, bb_M18, bb_M505, bb_M507, bb_V16, bb_V18, bb_V507, bb_g1_g1, bb_g1_eq, ab_e247_0, ab_e247_1, ab_e247_4, ab_e247_6, ab_e247_8, ab_e247_11, ab_e247_14, ab_e247_15, ab_e247_16, ab_e247_17, ab_e247_20, ab_e247_21, ab_e247_22, ab_e247_23, ab_e247_24, ab_e247_25, ab_e247_26, ab_e247_27, ab_e247_30, ab_e247_31, ab_e247_34, ab_e247_36, ab_e247_38, ab_e247_41, ab_e247_44, ab_e247_45, ab_e247_48, ab_e247_49, ab_e247_51, ab_e247_52, ab_e247_55, ab_e247_56, ab_e247_57, ab_e247_58, ab_e247_59, ab_e247_62, ab_e247_63, ab_e247_65, ab_e247_66, ab_e247_67, ab_e247_68, ab_e247_69, ab_e247_72, ab_e247_73, ab_e247_74, ab_e247_77, ab_e247_80, ab_e247_83, ab_e247_84, ab_br_t, ab_br_f, ab_re_v (ab_zz _), ab_re_n (ab_zz _)]

