/-! ===== the reader of the class ===== -/
/-- the text and its reader: count, at, letter, how many numbers, turned, the numbers -/
def bb_T (D : Nat → Int → Int) (q p l k t : Int) (N : Int → Int) : Nat → Int → Int := bb_row (bb_row D 494 (fun j => if j = 2 then q else if j = 3 then p else if j = 4 then l else if j = 6 then k else if j = 7 then t else D 494 j)) 496 N
section
variable {D : Nat → Int → Int} {q p l k t v j : Int} {N : Int → Int}
theorem bb_T494 : bb_T D q p l k t N 494 = fun j => if j = 2 then q else if j = 3 then p else if j = 4 then l else if j = 6 then k else if j = 7 then t else D 494 j := by
  unfold bb_T
  rw [bb_row_ne (by decide), bb_row_eq]
theorem bb_T496 : bb_T D q p l k t N 496 = N := bb_row_eq
theorem bb_Trow {i : Nat} (h : i ≠ 494) (h2 : i ≠ 496) : bb_T D q p l k t N i = D i := by
  unfold bb_T
  rw [bb_row_ne h2, bb_row_ne h]
theorem bb_T495 : bb_T D q p l k t N 495 = D 495 := bb_Trow (by decide) (by decide)
theorem bb_T17 : bb_T D q p l k t N 17 = D 17 := bb_Trow (by decide) (by decide)
theorem bb_T1 : bb_T D q p l k t N 494 1 = D 494 1 := by rw [bb_T494]; rfl
theorem bb_T2 : bb_T D q p l k t N 494 2 = q := by rw [bb_T494]; rfl
theorem bb_T3 : bb_T D q p l k t N 494 3 = p := by rw [bb_T494]; rfl
theorem bb_T4 : bb_T D q p l k t N 494 4 = l := by rw [bb_T494]; rfl
theorem bb_T6 : bb_T D q p l k t N 494 6 = k := by rw [bb_T494]; rfl
theorem bb_T7 : bb_T D q p l k t N 494 7 = t := by rw [bb_T494]; rfl
theorem bb_Tself : D = bb_T D (D 494 2) (D 494 3) (D 494 4) (D 494 6) (D 494 7) (D 496) := by
  funext i
  by_cases h : i = 496
  · rw [h, bb_T496]
  · by_cases h2 : i = 494
    · rw [h2, bb_T494]
      funext j
      by_cases a : j = 2
      · rw [if_pos a, a]
      by_cases b : j = 3
      · rw [if_neg a, if_pos b, b]
      by_cases c : j = 4
      · rw [if_neg a, if_neg b, if_pos c, c]
      by_cases d : j = 6
      · rw [if_neg a, if_neg b, if_neg c, if_pos d, d]
      by_cases e : j = 7
      · rw [if_neg a, if_neg b, if_neg c, if_neg d, if_pos e, e]
      · rw [if_neg a, if_neg b, if_neg c, if_neg d, if_neg e]
    · rw [bb_Trow h2 h]
theorem bb_U2 : ab_u (bb_T D q p l k t N) 494 2 v = bb_T D v p l k t N := by
  funext i
  by_cases h2 : i = 494
  · subst h2
    funext j
    rw [ab_u_if, bb_T494, bb_T494]
    by_cases a : j = 2
    · rw [if_pos a, a]; rfl
    · rw [if_neg a]
      simp only [if_neg a]
  · rw [ab_u_row h2]
    by_cases h : i = 496
    · rw [h, bb_T496, bb_T496]
    · rw [bb_Trow h2 h, bb_Trow h2 h]
theorem bb_U3 : ab_u (bb_T D q p l k t N) 494 3 v = bb_T D q v l k t N := by
  funext i
  by_cases h2 : i = 494
  · subst h2
    funext j
    rw [ab_u_if, bb_T494, bb_T494]
    by_cases a : j = 3
    · rw [if_pos a, a]; rfl
    · rw [if_neg a]
      simp only [if_neg a]
  · rw [ab_u_row h2]
    by_cases h : i = 496
    · rw [h, bb_T496, bb_T496]
    · rw [bb_Trow h2 h, bb_Trow h2 h]
theorem bb_U4 : ab_u (bb_T D q p l k t N) 494 4 v = bb_T D q p v k t N := by
  funext i
  by_cases h2 : i = 494
  · subst h2
    funext j
    rw [ab_u_if, bb_T494, bb_T494]
    by_cases a : j = 4
    · rw [if_pos a, a]; rfl
    · rw [if_neg a]
      simp only [if_neg a]
  · rw [ab_u_row h2]
    by_cases h : i = 496
    · rw [h, bb_T496, bb_T496]
    · rw [bb_Trow h2 h, bb_Trow h2 h]
theorem bb_U6 : ab_u (bb_T D q p l k t N) 494 6 v = bb_T D q p l v t N := by
  funext i
  by_cases h2 : i = 494
  · subst h2
    funext j
    rw [ab_u_if, bb_T494, bb_T494]
    by_cases a : j = 6
    · rw [if_pos a, a]; rfl
    · rw [if_neg a]
      simp only [if_neg a]
  · rw [ab_u_row h2]
    by_cases h : i = 496
    · rw [h, bb_T496, bb_T496]
    · rw [bb_Trow h2 h, bb_Trow h2 h]
theorem bb_U7 : ab_u (bb_T D q p l k t N) 494 7 v = bb_T D q p l k v N := by
  funext i
  by_cases h2 : i = 494
  · subst h2
    funext j
    rw [ab_u_if, bb_T494, bb_T494]
    by_cases a : j = 7
    · rw [if_pos a, a]; rfl
    · rw [if_neg a]
      simp only [if_neg a]
  · rw [ab_u_row h2]
    by_cases h : i = 496
    · rw [h, bb_T496, bb_T496]
    · rw [bb_Trow h2 h, bb_Trow h2 h]
theorem bb_U496 : ab_u (bb_T D q p l k t N) 496 j v = bb_T D q p l k t (bb_g1 N j v) := by
  rw [bb_u_row, bb_T496]
  unfold bb_T
  rw [bb_row_row]
end
/-- the characters are c, n of them -/
def bb_X (D : Nat → Int → Int) (c : Int → Int) (n : Int) : Prop := (0 ≤ n ∧ n ≤ 60) ∧ D 494 1 = n ∧ ∀ j, 0 ≤ j → j < n → D 495 j = c j ∧ 0 ≤ c j ∧ c j ≤ 65535
/-- the place behind a number of one or two digits, and the number -/
def bb_nP (c : Int → Int) (n p : Int) : Int := if p + 1 < n ∧ 48 ≤ c (p + 1) ∧ c (p + 1) ≤ 57 then p + 2 else p + 1
def bb_nV (c : Int → Int) (n p : Int) : Int := if p + 1 < n ∧ 48 ≤ c (p + 1) ∧ c (p + 1) ≤ 57 then (c p - 48) * 10 + (c (p + 1) - 48) else c p - 48
theorem bb_nP_rg (c : Int → Int) (n p : Int) : p + 1 ≤ bb_nP c n p ∧ bb_nP c n p ≤ p + 2 ∧ (p < n → bb_nP c n p ≤ n) := by unfold bb_nP; split <;> omega
theorem bb_y284 {K : ab_Kt} {D : Nat → Int → Int} {L : Nat → Int → Int64} {z : ab_Z} {c : Int → Int} {n : Int} (hX : bb_X D c n) {q p l k t : Int} {N : Int → Int} (p0 : 0 ≤ p) (pn : p ≤ n) (h : (p < n ∧ 48 ≤ c (p) ∧ c (p) ≤ 57)) : ab_cal K 284 [.ref 494] (ab_mk (bb_T D (q) (p) (l) (k) (t) N) L z) = some (.inl (some (.int (ab_I (1)))), ab_mk (bb_T D (q) (p) (l) (k) (t) N) L z) := by
  obtain ⟨⟨n0, n60⟩, x1, x2⟩ := id hX
  have hcj : ∀ j, 0 ≤ j → j < n → D 495 j = c j := fun j a b => (x2 j a b).1
  have hc1 : ∀ j, 0 ≤ j → j < n → ab_rg (c j) := fun j a b => ab_rgI (by have := (x2 j a b).2.1; omega) (by have := (x2 j a b).2.2; omega)
  simp (discharger := first | assumption | exact True.intro | exact not_false | (refine ab_gK ?_; with_unfolding_all rfl) | exact ab_rgI (by omega) (by omega) | omega) only [ab_a284, x1, hcj, bb_T1, bb_T2, bb_T3, bb_T4, bb_T6, bb_T7, bb_T495, bb_T496, bb_T17, bb_U2, bb_U3, bb_U4, bb_U6, bb_U7, bb_U496, ab_e284_0, ab_e284_1, ab_e284_4, ab_e284_5, ab_e284_8, ab_e284_11, ab_e284_12, ab_e284_15, ab_e284_16, ab_e284_19, ab_e284_20, ab_e284_22, ab_e284_25, ab_e284_26, ab_e284_29, ab_e284_30, ab_e284_33, ab_e284_34, ab_e284_36, ab_e284_39, ab_e284_40, ab_e284_43, ab_e284_44, ab_br_t, ab_br_f, ab_re_v (ab_zz _), ab_re_n (ab_zz _)]

theorem bb_y284t {K : ab_Kt} {D : Nat → Int → Int} {L : Nat → Int → Int64} {z : ab_Z} {c : Int → Int} {n : Int} (hX : bb_X D c n) {q p l k t : Int} {N : Int → Int} (p0 : 0 ≤ p) (pn : p ≤ n) (h : ¬ (p < n ∧ 48 ≤ c (p) ∧ c (p) ≤ 57)) : ab_cal K 284 [.ref 494] (ab_mk (bb_T D (q) (p) (l) (k) (t) N) L z) = some (.inl (some (.int (ab_I (0)))), ab_mk (bb_T D (q) (p) (l) (k) (t) N) L z) := by
  obtain ⟨⟨n0, n60⟩, x1, x2⟩ := id hX
  have hcj : ∀ j, 0 ≤ j → j < n → D 495 j = c j := fun j a b => (x2 j a b).1
  have hc1 : ∀ j, 0 ≤ j → j < n → ab_rg (c j) := fun j a b => ab_rgI (by have := (x2 j a b).2.1; omega) (by have := (x2 j a b).2.2; omega)
  by_cases h1 : p < n
  · have hcp := hc1 p p0 h1
    by_cases h2 : c p < 48
    · skip
      simp (discharger := first | assumption | exact True.intro | exact not_false | (refine ab_gK ?_; with_unfolding_all rfl) | exact ab_rgI (by omega) (by omega) | omega) only [ab_a284, x1, hcj, bb_T1, bb_T2, bb_T3, bb_T4, bb_T6, bb_T7, bb_T495, bb_T496, bb_T17, bb_U2, bb_U3, bb_U4, bb_U6, bb_U7, bb_U496, ab_e284_0, ab_e284_1, ab_e284_4, ab_e284_5, ab_e284_8, ab_e284_11, ab_e284_12, ab_e284_15, ab_e284_16, ab_e284_19, ab_e284_20, ab_e284_22, ab_e284_25, ab_e284_26, ab_e284_29, ab_e284_30, ab_e284_33, ab_e284_34, ab_e284_36, ab_e284_39, ab_e284_40, ab_e284_43, ab_e284_44, ab_br_t, ab_br_f, ab_re_v (ab_zz _), ab_re_n (ab_zz _)]
    · have h3 : 57 < c p := by omega
      simp (discharger := first | assumption | exact True.intro | exact not_false | (refine ab_gK ?_; with_unfolding_all rfl) | exact ab_rgI (by omega) (by omega) | omega) only [ab_a284, x1, hcj, bb_T1, bb_T2, bb_T3, bb_T4, bb_T6, bb_T7, bb_T495, bb_T496, bb_T17, bb_U2, bb_U3, bb_U4, bb_U6, bb_U7, bb_U496, ab_e284_0, ab_e284_1, ab_e284_4, ab_e284_5, ab_e284_8, ab_e284_11, ab_e284_12, ab_e284_15, ab_e284_16, ab_e284_19, ab_e284_20, ab_e284_22, ab_e284_25, ab_e284_26, ab_e284_29, ab_e284_30, ab_e284_33, ab_e284_34, ab_e284_36, ab_e284_39, ab_e284_40, ab_e284_43, ab_e284_44, ab_br_t, ab_br_f, ab_re_v (ab_zz _), ab_re_n (ab_zz _)]
  · skip
    simp (discharger := first | assumption | exact True.intro | exact not_false | (refine ab_gK ?_; with_unfolding_all rfl) | exact ab_rgI (by omega) (by omega) | omega) only [ab_a284, x1, hcj, bb_T1, bb_T2, bb_T3, bb_T4, bb_T6, bb_T7, bb_T495, bb_T496, bb_T17, bb_U2, bb_U3, bb_U4, bb_U6, bb_U7, bb_U496, ab_e284_0, ab_e284_1, ab_e284_4, ab_e284_5, ab_e284_8, ab_e284_11, ab_e284_12, ab_e284_15, ab_e284_16, ab_e284_19, ab_e284_20, ab_e284_22, ab_e284_25, ab_e284_26, ab_e284_29, ab_e284_30, ab_e284_33, ab_e284_34, ab_e284_36, ab_e284_39, ab_e284_40, ab_e284_43, ab_e284_44, ab_br_t, ab_br_f, ab_re_v (ab_zz _), ab_re_n (ab_zz _)]

theorem bb_y241 {K : ab_Kt} {D : Nat → Int → Int} {L : Nat → Int → Int64} {z : ab_Z} {c : Int → Int} {n : Int} (hX : bb_X D c n) {q p l k t : Int} {N : Int → Int} (p0 : 0 ≤ p) (pn : p ≤ n) {x : Int} (hx : ab_rg x) (h : (p < n ∧ c (p) = x)) : ab_cal K 241 [.ref 494, .int (ab_I x)] (ab_mk (bb_T D (q) (p) (l) (k) (t) N) L z) = some (.inl (some (.int (ab_I (1)))), ab_mk (bb_T D (q) (p + 1) (l) (k) (t) N) L z) := by
  obtain ⟨⟨n0, n60⟩, x1, x2⟩ := id hX
  have hcj : ∀ j, 0 ≤ j → j < n → D 495 j = c j := fun j a b => (x2 j a b).1
  have hc1 : ∀ j, 0 ≤ j → j < n → ab_rg (c j) := fun j a b => ab_rgI (by have := (x2 j a b).2.1; omega) (by have := (x2 j a b).2.2; omega)
  obtain ⟨h1, h2⟩ := h
  have hcp := hc1 p p0 h1
  simp (discharger := first | assumption | exact True.intro | exact not_false | (refine ab_gK ?_; with_unfolding_all rfl) | exact ab_rgI (by omega) (by omega) | omega) only [ab_a241, x1, hcj, bb_T1, bb_T2, bb_T3, bb_T4, bb_T6, bb_T7, bb_T495, bb_T496, bb_T17, bb_U2, bb_U3, bb_U4, bb_U6, bb_U7, bb_U496, ab_e241_0, ab_e241_1, ab_e241_4, ab_e241_5, ab_e241_8, ab_e241_11, ab_e241_12, ab_e241_15, ab_e241_16, ab_e241_19, ab_e241_20, ab_e241_21, ab_e241_24, ab_e241_25, ab_e241_26, ab_e241_27, ab_e241_28, ab_e241_31, ab_e241_32, ab_e241_33, ab_e241_36, ab_e241_37, ab_br_t, ab_br_f, ab_re_v (ab_zz _), ab_re_n (ab_zz _)]

theorem bb_y241t {K : ab_Kt} {D : Nat → Int → Int} {L : Nat → Int → Int64} {z : ab_Z} {c : Int → Int} {n : Int} (hX : bb_X D c n) {q p l k t : Int} {N : Int → Int} (p0 : 0 ≤ p) (pn : p ≤ n) {x : Int} (hx : ab_rg x) (h : ¬ (p < n ∧ c (p) = x)) : ab_cal K 241 [.ref 494, .int (ab_I x)] (ab_mk (bb_T D (q) (p) (l) (k) (t) N) L z) = some (.inl (some (.int (ab_I (0)))), ab_mk (bb_T D (q) (p) (l) (k) (t) N) L z) := by
  obtain ⟨⟨n0, n60⟩, x1, x2⟩ := id hX
  have hcj : ∀ j, 0 ≤ j → j < n → D 495 j = c j := fun j a b => (x2 j a b).1
  have hc1 : ∀ j, 0 ≤ j → j < n → ab_rg (c j) := fun j a b => ab_rgI (by have := (x2 j a b).2.1; omega) (by have := (x2 j a b).2.2; omega)
  by_cases h1 : p < n
  · have h2 : ¬ c p = x := fun e => h ⟨h1, e⟩
    have hcp := hc1 p p0 h1
    simp (discharger := first | assumption | exact True.intro | exact not_false | (refine ab_gK ?_; with_unfolding_all rfl) | exact ab_rgI (by omega) (by omega) | omega) only [ab_a241, x1, hcj, bb_T1, bb_T2, bb_T3, bb_T4, bb_T6, bb_T7, bb_T495, bb_T496, bb_T17, bb_U2, bb_U3, bb_U4, bb_U6, bb_U7, bb_U496, ab_e241_0, ab_e241_1, ab_e241_4, ab_e241_5, ab_e241_8, ab_e241_11, ab_e241_12, ab_e241_15, ab_e241_16, ab_e241_19, ab_e241_20, ab_e241_21, ab_e241_24, ab_e241_25, ab_e241_26, ab_e241_27, ab_e241_28, ab_e241_31, ab_e241_32, ab_e241_33, ab_e241_36, ab_e241_37, ab_br_t, ab_br_f, ab_re_v (ab_zz _), ab_re_n (ab_zz _)]
  · skip
    simp (discharger := first | assumption | exact True.intro | exact not_false | (refine ab_gK ?_; with_unfolding_all rfl) | exact ab_rgI (by omega) (by omega) | omega) only [ab_a241, x1, hcj, bb_T1, bb_T2, bb_T3, bb_T4, bb_T6, bb_T7, bb_T495, bb_T496, bb_T17, bb_U2, bb_U3, bb_U4, bb_U6, bb_U7, bb_U496, ab_e241_0, ab_e241_1, ab_e241_4, ab_e241_5, ab_e241_8, ab_e241_11, ab_e241_12, ab_e241_15, ab_e241_16, ab_e241_19, ab_e241_20, ab_e241_21, ab_e241_24, ab_e241_25, ab_e241_26, ab_e241_27, ab_e241_28, ab_e241_31, ab_e241_32, ab_e241_33, ab_e241_36, ab_e241_37, ab_br_t, ab_br_f, ab_re_v (ab_zz _), ab_re_n (ab_zz _)]

theorem bb_y282t {K : ab_Kt} {D : Nat → Int → Int} {L : Nat → Int → Int64} {z : ab_Z} {c : Int → Int} {n : Int} (hX : bb_X D c n) {q p l k t : Int} {N : Int → Int} (p0 : 0 ≤ p) (pn : p ≤ n) {m : Int} (hm : m = 1 ∨ m = 2) (h : ¬ (p < n ∧ 48 ≤ c (p) ∧ c (p) ≤ 57)) : ab_cal K 282 [.ref 494, .int (ab_I m)] (ab_mk (bb_T D (q) (p) (l) (k) (t) N) L z) = some (.inl (some (.int (ab_I (0)))), ab_mk (bb_T D (q) (p) (l) (k) (t) N) L z) := by
  obtain ⟨⟨n0, n60⟩, x1, x2⟩ := id hX
  have hcj : ∀ j, 0 ≤ j → j < n → D 495 j = c j := fun j a b => (x2 j a b).1
  have hc1 : ∀ j, 0 ≤ j → j < n → ab_rg (c j) := fun j a b => ab_rgI (by have := (x2 j a b).2.1; omega) (by have := (x2 j a b).2.2; omega)
  rcases hm with rfl | rfl
  · simp (discharger := first | assumption | exact True.intro | exact not_false | (refine ab_gK ?_; with_unfolding_all rfl) | exact ab_rgI (by omega) (by omega) | omega) only [ab_a282, x1, hcj, bb_y284t hX p0 pn h, bb_T1, bb_T2, bb_T3, bb_T4, bb_T6, bb_T7, bb_T495, bb_T496, bb_T17, bb_U2, bb_U3, bb_U4, bb_U6, bb_U7, bb_U496, ab_e282_0, ab_e282_1, ab_e282_2, ab_e282_3, ab_e282_4, ab_e282_5, ab_e282_6, ab_e282_9, ab_e282_10, ab_e282_13, ab_e282_16, ab_e282_17, ab_e282_19, ab_e282_20, ab_e282_21, ab_e282_24, ab_e282_25, ab_e282_28, ab_e282_29, ab_e282_31, ab_e282_32, ab_e282_33, ab_e282_34, ab_e282_37, ab_e282_38, ab_e282_39, ab_e282_42, ab_e282_43, ab_e282_44, ab_e282_47, ab_e282_50, ab_e282_51, ab_e282_54, ab_e282_55, ab_e282_58, ab_e282_59, ab_e282_62, ab_e282_63, ab_e282_64, ab_e282_65, ab_e282_68, ab_e282_69, ab_e282_72, ab_e282_73, ab_e282_74, ab_e282_75, ab_e282_76, ab_e282_79, ab_e282_80, ab_e282_81, ab_e282_84, ab_e282_85, ab_br_t, ab_br_f, ab_re_v (ab_zz _), ab_re_n (ab_zz _)]
  · simp (discharger := first | assumption | exact True.intro | exact not_false | (refine ab_gK ?_; with_unfolding_all rfl) | exact ab_rgI (by omega) (by omega) | omega) only [ab_a282, x1, hcj, bb_y284t hX p0 pn h, bb_T1, bb_T2, bb_T3, bb_T4, bb_T6, bb_T7, bb_T495, bb_T496, bb_T17, bb_U2, bb_U3, bb_U4, bb_U6, bb_U7, bb_U496, ab_e282_0, ab_e282_1, ab_e282_2, ab_e282_3, ab_e282_4, ab_e282_5, ab_e282_6, ab_e282_9, ab_e282_10, ab_e282_13, ab_e282_16, ab_e282_17, ab_e282_19, ab_e282_20, ab_e282_21, ab_e282_24, ab_e282_25, ab_e282_28, ab_e282_29, ab_e282_31, ab_e282_32, ab_e282_33, ab_e282_34, ab_e282_37, ab_e282_38, ab_e282_39, ab_e282_42, ab_e282_43, ab_e282_44, ab_e282_47, ab_e282_50, ab_e282_51, ab_e282_54, ab_e282_55, ab_e282_58, ab_e282_59, ab_e282_62, ab_e282_63, ab_e282_64, ab_e282_65, ab_e282_68, ab_e282_69, ab_e282_72, ab_e282_73, ab_e282_74, ab_e282_75, ab_e282_76, ab_e282_79, ab_e282_80, ab_e282_81, ab_e282_84, ab_e282_85, ab_br_t, ab_br_f, ab_re_v (ab_zz _), ab_re_n (ab_zz _)]

theorem bb_y282a {K : ab_Kt} {D : Nat → Int → Int} {L : Nat → Int → Int64} {z : ab_Z} {c : Int → Int} {n : Int} (hX : bb_X D c n) {q p l k t : Int} {N : Int → Int} (p0 : 0 ≤ p) (pn : p ≤ n) (h : (p < n ∧ 48 ≤ c (p) ∧ c (p) ≤ 57)) (k0 : 0 ≤ k) (k3 : k < 3) : ab_cal K 282 [.ref 494, .int (ab_I 1)] (ab_mk (bb_T D (q) (p) (l) (k) (t) N) L z) = some (.inl (some (.int (ab_I (1)))), ab_mk (bb_T D (q) (p + 1) (l) (k + 1) (t) (bb_g1 N k (c p - 48))) L z) := by
  obtain ⟨⟨n0, n60⟩, x1, x2⟩ := id hX
  have hcj : ∀ j, 0 ≤ j → j < n → D 495 j = c j := fun j a b => (x2 j a b).1
  have hc1 : ∀ j, 0 ≤ j → j < n → ab_rg (c j) := fun j a b => ab_rgI (by have := (x2 j a b).2.1; omega) (by have := (x2 j a b).2.2; omega)
  have h1 := h.1
  simp (discharger := first | assumption | exact True.intro | exact not_false | (refine ab_gK ?_; with_unfolding_all rfl) | exact ab_rgI (by omega) (by omega) | omega) only [ab_a282, x1, hcj, bb_y284 hX p0 pn h, Int.zero_mul, Int.zero_add, bb_T1, bb_T2, bb_T3, bb_T4, bb_T6, bb_T7, bb_T495, bb_T496, bb_T17, bb_U2, bb_U3, bb_U4, bb_U6, bb_U7, bb_U496, ab_e282_0, ab_e282_1, ab_e282_2, ab_e282_3, ab_e282_4, ab_e282_5, ab_e282_6, ab_e282_9, ab_e282_10, ab_e282_13, ab_e282_16, ab_e282_17, ab_e282_19, ab_e282_20, ab_e282_21, ab_e282_24, ab_e282_25, ab_e282_28, ab_e282_29, ab_e282_31, ab_e282_32, ab_e282_33, ab_e282_34, ab_e282_37, ab_e282_38, ab_e282_39, ab_e282_42, ab_e282_43, ab_e282_44, ab_e282_47, ab_e282_50, ab_e282_51, ab_e282_54, ab_e282_55, ab_e282_58, ab_e282_59, ab_e282_62, ab_e282_63, ab_e282_64, ab_e282_65, ab_e282_68, ab_e282_69, ab_e282_72, ab_e282_73, ab_e282_74, ab_e282_75, ab_e282_76, ab_e282_79, ab_e282_80, ab_e282_81, ab_e282_84, ab_e282_85, ab_br_t, ab_br_f, ab_re_v (ab_zz _), ab_re_n (ab_zz _)]

theorem bb_y282b {K : ab_Kt} {D : Nat → Int → Int} {L : Nat → Int → Int64} {z : ab_Z} {c : Int → Int} {n : Int} (hX : bb_X D c n) {q p l k t : Int} {N : Int → Int} (p0 : 0 ≤ p) (pn : p ≤ n) (h : (p < n ∧ 48 ≤ c (p) ∧ c (p) ≤ 57)) (k0 : 0 ≤ k) (k3 : k < 3) : ab_cal K 282 [.ref 494, .int (ab_I 2)] (ab_mk (bb_T D (q) (p) (l) (k) (t) N) L z) = some (.inl (some (.int (ab_I (1)))), ab_mk (bb_T D (q) (bb_nP c n p) (l) (k + 1) (t) (bb_g1 N k (bb_nV c n p))) L z) := by
  obtain ⟨⟨n0, n60⟩, x1, x2⟩ := id hX
  have hcj : ∀ j, 0 ≤ j → j < n → D 495 j = c j := fun j a b => (x2 j a b).1
  have hc1 : ∀ j, 0 ≤ j → j < n → ab_rg (c j) := fun j a b => ab_rgI (by have := (x2 j a b).2.1; omega) (by have := (x2 j a b).2.2; omega)
  have h1 := h.1
  have p1 : 0 ≤ p + 1 := by omega
  by_cases h2 : (p + 1 < n ∧ 48 ≤ c (p + 1) ∧ c (p + 1) ≤ 57)
  · rw [show bb_nP c n p = p + 1 + 1 from (if_pos h2).trans (by omega), show bb_nV c n p = (c p - 48) * 10 + (c (p + 1) - 48) from if_pos h2]
    have h3 := h2.1
    simp (discharger := first | assumption | exact True.intro | exact not_false | (refine ab_gK ?_; with_unfolding_all rfl) | exact ab_rgI (by omega) (by omega) | omega) only [ab_a282, x1, hcj, bb_y284 hX p0 pn h, bb_y284 hX p1 h1 h2, Int.zero_mul, Int.zero_add, bb_T1, bb_T2, bb_T3, bb_T4, bb_T6, bb_T7, bb_T495, bb_T496, bb_T17, bb_U2, bb_U3, bb_U4, bb_U6, bb_U7, bb_U496, ab_e282_0, ab_e282_1, ab_e282_2, ab_e282_3, ab_e282_4, ab_e282_5, ab_e282_6, ab_e282_9, ab_e282_10, ab_e282_13, ab_e282_16, ab_e282_17, ab_e282_19, ab_e282_20, ab_e282_21, ab_e282_24, ab_e282_25, ab_e282_28, ab_e282_29, ab_e282_31, ab_e282_32, ab_e282_33, ab_e282_34, ab_e282_37, ab_e282_38, ab_e282_39, ab_e282_42, ab_e282_43, ab_e282_44, ab_e282_47, ab_e282_50, ab_e282_51, ab_e282_54, ab_e282_55, ab_e282_58, ab_e282_59, ab_e282_62, ab_e282_63, ab_e282_64, ab_e282_65, ab_e282_68, ab_e282_69, ab_e282_72, ab_e282_73, ab_e282_74, ab_e282_75, ab_e282_76, ab_e282_79, ab_e282_80, ab_e282_81, ab_e282_84, ab_e282_85, ab_br_t, ab_br_f, ab_re_v (ab_zz _), ab_re_n (ab_zz _)]
  · rw [show bb_nP c n p = p + 1 from if_neg h2, show bb_nV c n p = c p - 48 from if_neg h2]
    simp (discharger := first | assumption | exact True.intro | exact not_false | (refine ab_gK ?_; with_unfolding_all rfl) | exact ab_rgI (by omega) (by omega) | omega) only [ab_a282, x1, hcj, bb_y284 hX p0 pn h, bb_y284t hX p1 h1 h2, Int.zero_mul, Int.zero_add, bb_T1, bb_T2, bb_T3, bb_T4, bb_T6, bb_T7, bb_T495, bb_T496, bb_T17, bb_U2, bb_U3, bb_U4, bb_U6, bb_U7, bb_U496, ab_e282_0, ab_e282_1, ab_e282_2, ab_e282_3, ab_e282_4, ab_e282_5, ab_e282_6, ab_e282_9, ab_e282_10, ab_e282_13, ab_e282_16, ab_e282_17, ab_e282_19, ab_e282_20, ab_e282_21, ab_e282_24, ab_e282_25, ab_e282_28, ab_e282_29, ab_e282_31, ab_e282_32, ab_e282_33, ab_e282_34, ab_e282_37, ab_e282_38, ab_e282_39, ab_e282_42, ab_e282_43, ab_e282_44, ab_e282_47, ab_e282_50, ab_e282_51, ab_e282_54, ab_e282_55, ab_e282_58, ab_e282_59, ab_e282_62, ab_e282_63, ab_e282_64, ab_e282_65, ab_e282_68, ab_e282_69, ab_e282_72, ab_e282_73, ab_e282_74, ab_e282_75, ab_e282_76, ab_e282_79, ab_e282_80, ab_e282_81, ab_e282_84, ab_e282_85, ab_br_t, ab_br_f, ab_re_v (ab_zz _), ab_re_n (ab_zz _)]

theorem bb_y274n {K : ab_Kt} {D : Nat → Int → Int} {L : Nat → Int → Int64} {z : ab_Z} {c : Int → Int} {n : Int} (hX : bb_X D c n) {q p l k t : Int} {N : Int → Int} (p0 : 0 ≤ p) (pn : p ≤ n) (h : (p < n ∧ 48 ≤ c (p) ∧ c (p) ≤ 57)) (k0 : 0 ≤ k) (k3 : k < 3) : ab_cal K 274 [.ref 494, .int (ab_I 35)] (ab_mk (bb_T D (q) (p) (l) (k) (t) N) L z) = some (.inl (some (.int (ab_I (1)))), ab_mk (bb_T D (q) (p + 1) (l) (k + 1) (t) (bb_g1 N k (c p - 48))) L z) := by
  simp (discharger := first | assumption | exact True.intro | exact not_false | (refine ab_gK ?_; with_unfolding_all rfl) | exact ab_rgI (by omega) (by omega) | omega) only [ab_a274, bb_y282a hX p0 pn h k0 k3, ab_e274_0, ab_e274_1c33, ab_e274_1c34, ab_e274_1c35, ab_e274_1c36, ab_e274_1c37, ab_e274_1d, ab_e274_36, ab_e274_37, ab_e274_38, ab_e274_41, ab_e274_42, ab_e274_43, ab_e274_44, ab_e274_47, ab_e274_48, ab_e274_49, ab_e274_50, ab_e274_52, ab_e274_55, ab_e274_58, ab_e274_59, ab_e274_60, ab_e274_61, ab_e274_62, ab_e274_65, ab_br_t, ab_br_f, ab_re_v (ab_zz _), ab_re_n (ab_zz _)]

theorem bb_y274w {K : ab_Kt} {D : Nat → Int → Int} {L : Nat → Int → Int64} {z : ab_Z} {c : Int → Int} {n : Int} (hX : bb_X D c n) {q p l k t : Int} {N : Int → Int} (p0 : 0 ≤ p) (pn : p ≤ n) (h : (p < n ∧ 48 ≤ c (p) ∧ c (p) ≤ 57)) (k0 : 0 ≤ k) (k3 : k < 3) : ab_cal K 274 [.ref 494, .int (ab_I 37)] (ab_mk (bb_T D (q) (p) (l) (k) (t) N) L z) = some (.inl (some (.int (ab_I (1)))), ab_mk (bb_T D (q) (bb_nP c n p) (l) (k + 1) (t) (bb_g1 N k (bb_nV c n p))) L z) := by
  simp (discharger := first | assumption | exact True.intro | exact not_false | (refine ab_gK ?_; with_unfolding_all rfl) | exact ab_rgI (by omega) (by omega) | omega) only [ab_a274, bb_y282b hX p0 pn h k0 k3, ab_e274_0, ab_e274_1c33, ab_e274_1c34, ab_e274_1c35, ab_e274_1c36, ab_e274_1c37, ab_e274_1d, ab_e274_36, ab_e274_37, ab_e274_38, ab_e274_41, ab_e274_42, ab_e274_43, ab_e274_44, ab_e274_47, ab_e274_48, ab_e274_49, ab_e274_50, ab_e274_52, ab_e274_55, ab_e274_58, ab_e274_59, ab_e274_60, ab_e274_61, ab_e274_62, ab_e274_65, ab_br_t, ab_br_f, ab_re_v (ab_zz _), ab_re_n (ab_zz _)]

theorem bb_y274nt {K : ab_Kt} {D : Nat → Int → Int} {L : Nat → Int → Int64} {z : ab_Z} {c : Int → Int} {n : Int} (hX : bb_X D c n) {q p l k t : Int} {N : Int → Int} (p0 : 0 ≤ p) (pn : p ≤ n) {x : Int} (hx : x = 35 ∨ x = 37) (h : ¬ (p < n ∧ 48 ≤ c (p) ∧ c (p) ≤ 57)) : ab_cal K 274 [.ref 494, .int (ab_I x)] (ab_mk (bb_T D (q) (p) (l) (k) (t) N) L z) = some (.inl (some (.int (ab_I (0)))), ab_mk (bb_T D (q) (p) (l) (k) (t) N) L z) := by
  rcases hx with rfl | rfl
  · simp (discharger := first | assumption | exact True.intro | exact not_false | (refine ab_gK ?_; with_unfolding_all rfl) | exact ab_rgI (by omega) (by omega) | omega) only [ab_a274, bb_y282t hX p0 pn (.inl rfl) h, ab_e274_0, ab_e274_1c33, ab_e274_1c34, ab_e274_1c35, ab_e274_1c36, ab_e274_1c37, ab_e274_1d, ab_e274_36, ab_e274_37, ab_e274_38, ab_e274_41, ab_e274_42, ab_e274_43, ab_e274_44, ab_e274_47, ab_e274_48, ab_e274_49, ab_e274_50, ab_e274_52, ab_e274_55, ab_e274_58, ab_e274_59, ab_e274_60, ab_e274_61, ab_e274_62, ab_e274_65, ab_br_t, ab_br_f, ab_re_v (ab_zz _), ab_re_n (ab_zz _)]
  · simp (discharger := first | assumption | exact True.intro | exact not_false | (refine ab_gK ?_; with_unfolding_all rfl) | exact ab_rgI (by omega) (by omega) | omega) only [ab_a274, bb_y282t hX p0 pn (.inr rfl) h, ab_e274_0, ab_e274_1c33, ab_e274_1c34, ab_e274_1c35, ab_e274_1c36, ab_e274_1c37, ab_e274_1d, ab_e274_36, ab_e274_37, ab_e274_38, ab_e274_41, ab_e274_42, ab_e274_43, ab_e274_44, ab_e274_47, ab_e274_48, ab_e274_49, ab_e274_50, ab_e274_52, ab_e274_55, ab_e274_58, ab_e274_59, ab_e274_60, ab_e274_61, ab_e274_62, ab_e274_65, ab_br_t, ab_br_f, ab_re_v (ab_zz _), ab_re_n (ab_zz _)]

theorem bb_y274c {K : ab_Kt} {D : Nat → Int → Int} {L : Nat → Int → Int64} {z : ab_Z} {c : Int → Int} {n : Int} (hX : bb_X D c n) {q p l k t : Int} {N : Int → Int} (p0 : 0 ≤ p) (pn : p ≤ n) {x : Int} (hx : x = 64 ∨ x = 58 ∨ x = 47) (h : (p < n ∧ c (p) = x)) : ab_cal K 274 [.ref 494, .int (ab_I x)] (ab_mk (bb_T D (q) (p) (l) (k) (t) N) L z) = some (.inl (some (.int (ab_I (1)))), ab_mk (bb_T D (q) (p + 1) (l) (k) (t) N) L z) := by
  have hr : ab_rg x := ab_rgI (by omega) (by omega)
  have hd : x < 33 ∨ 33 + 5 ≤ x := by omega
  simp (discharger := first | assumption | exact True.intro | exact not_false | (refine ab_gK ?_; with_unfolding_all rfl) | exact ab_rgI (by omega) (by omega) | omega) only [ab_a274, bb_y241 hX p0 pn hr h, ab_e274_0, ab_e274_1c33, ab_e274_1c34, ab_e274_1c35, ab_e274_1c36, ab_e274_1c37, ab_e274_1d, ab_e274_36, ab_e274_37, ab_e274_38, ab_e274_41, ab_e274_42, ab_e274_43, ab_e274_44, ab_e274_47, ab_e274_48, ab_e274_49, ab_e274_50, ab_e274_52, ab_e274_55, ab_e274_58, ab_e274_59, ab_e274_60, ab_e274_61, ab_e274_62, ab_e274_65, ab_br_t, ab_br_f, ab_re_v (ab_zz _), ab_re_n (ab_zz _)]

theorem bb_y274ct {K : ab_Kt} {D : Nat → Int → Int} {L : Nat → Int → Int64} {z : ab_Z} {c : Int → Int} {n : Int} (hX : bb_X D c n) {q p l k t : Int} {N : Int → Int} (p0 : 0 ≤ p) (pn : p ≤ n) {x : Int} (hx : x = 64 ∨ x = 58 ∨ x = 47) (h : ¬ (p < n ∧ c (p) = x)) : ab_cal K 274 [.ref 494, .int (ab_I x)] (ab_mk (bb_T D (q) (p) (l) (k) (t) N) L z) = some (.inl (some (.int (ab_I (0)))), ab_mk (bb_T D (q) (p) (l) (k) (t) N) L z) := by
  have hr : ab_rg x := ab_rgI (by omega) (by omega)
  have hd : x < 33 ∨ 33 + 5 ≤ x := by omega
  simp (discharger := first | assumption | exact True.intro | exact not_false | (refine ab_gK ?_; with_unfolding_all rfl) | exact ab_rgI (by omega) (by omega) | omega) only [ab_a274, bb_y241t hX p0 pn hr h, ab_e274_0, ab_e274_1c33, ab_e274_1c34, ab_e274_1c35, ab_e274_1c36, ab_e274_1c37, ab_e274_1d, ab_e274_36, ab_e274_37, ab_e274_38, ab_e274_41, ab_e274_42, ab_e274_43, ab_e274_44, ab_e274_47, ab_e274_48, ab_e274_49, ab_e274_50, ab_e274_52, ab_e274_55, ab_e274_58, ab_e274_59, ab_e274_60, ab_e274_61, ab_e274_62, ab_e274_65, ab_br_t, ab_br_f, ab_re_v (ab_zz _), ab_re_n (ab_zz _)]

theorem bb_y274b {K : ab_Kt} {D : Nat → Int → Int} {L : Nat → Int → Int64} {z : ab_Z} {c : Int → Int} {n : Int} (hX : bb_X D c n) {q p l k t : Int} {N : Int → Int} (p0 : 0 ≤ p) (pn : p ≤ n) (h : (p < n ∧ c (p) = 33)) : ab_cal K 274 [.ref 494, .int (ab_I 33)] (ab_mk (bb_T D (q) (p) (l) (k) (t) N) L z) = some (.inl (some (.int (ab_I (1)))), ab_mk (bb_T D (q) (p + 1) (l) (k) (1) N) L z) := by
  have hr : ab_rg 33 := ab_rgI (by omega) (by omega)
  simp (discharger := first | assumption | exact True.intro | exact not_false | (refine ab_gK ?_; with_unfolding_all rfl) | exact ab_rgI (by omega) (by omega) | omega) only [ab_a274, bb_y241 hX p0 pn hr h, bb_T1, bb_T2, bb_T3, bb_T4, bb_T6, bb_T7, bb_T495, bb_T496, bb_T17, bb_U2, bb_U3, bb_U4, bb_U6, bb_U7, bb_U496, ab_e274_0, ab_e274_1c33, ab_e274_1c34, ab_e274_1c35, ab_e274_1c36, ab_e274_1c37, ab_e274_1d, ab_e274_36, ab_e274_37, ab_e274_38, ab_e274_41, ab_e274_42, ab_e274_43, ab_e274_44, ab_e274_47, ab_e274_48, ab_e274_49, ab_e274_50, ab_e274_52, ab_e274_55, ab_e274_58, ab_e274_59, ab_e274_60, ab_e274_61, ab_e274_62, ab_e274_65, ab_br_t, ab_br_f, ab_re_v (ab_zz _), ab_re_n (ab_zz _)]

theorem bb_y274bt {K : ab_Kt} {D : Nat → Int → Int} {L : Nat → Int → Int64} {z : ab_Z} {c : Int → Int} {n : Int} (hX : bb_X D c n) {q p l k t : Int} {N : Int → Int} (p0 : 0 ≤ p) (pn : p ≤ n) (h : ¬ (p < n ∧ c (p) = 33)) : ab_cal K 274 [.ref 494, .int (ab_I 33)] (ab_mk (bb_T D (q) (p) (l) (k) (t) N) L z) = some (.inl (some (.int (ab_I (1)))), ab_mk (bb_T D (q) (p) (l) (k) (0) N) L z) := by
  have hr : ab_rg 33 := ab_rgI (by omega) (by omega)
  simp (discharger := first | assumption | exact True.intro | exact not_false | (refine ab_gK ?_; with_unfolding_all rfl) | exact ab_rgI (by omega) (by omega) | omega) only [ab_a274, bb_y241t hX p0 pn hr h, bb_T1, bb_T2, bb_T3, bb_T4, bb_T6, bb_T7, bb_T495, bb_T496, bb_T17, bb_U2, bb_U3, bb_U4, bb_U6, bb_U7, bb_U496, ab_e274_0, ab_e274_1c33, ab_e274_1c34, ab_e274_1c35, ab_e274_1c36, ab_e274_1c37, ab_e274_1d, ab_e274_36, ab_e274_37, ab_e274_38, ab_e274_41, ab_e274_42, ab_e274_43, ab_e274_44, ab_e274_47, ab_e274_48, ab_e274_49, ab_e274_50, ab_e274_52, ab_e274_55, ab_e274_58, ab_e274_59, ab_e274_60, ab_e274_61, ab_e274_62, ab_e274_65, ab_br_t, ab_br_f, ab_re_v (ab_zz _), ab_re_n (ab_zz _)]

