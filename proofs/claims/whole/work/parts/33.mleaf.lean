/-! ===== the model: refusals, copies, what is kept ===== -/
def bb_ref (D : Nat → Int → Int) (r d : Int) : Nat → Int → Int := ab_u (ab_u (ab_u (ab_u D 500 7 1) 500 8 r) 500 9 d) 500 10 0
/-- a book that isn't there, or at another stage; or with a signature sewn -/
def bb_at (g : Int → Int) (b st : Int) : Option (Int × Int) := if 0 ≤ b ∧ b < g 3 then (if bb_R g b 2 = st then none else some (4, bb_R g b 2)) else some (3, b)
def bb_held (g : Int → Int) (b : Int) : Option (Int × Int) := match bb_at g b 0 with
  | some x => some x
  | none => if bb_R g b 4 = 0 then none else some (5, bb_R g b 4)
theorem bb_at_n {g : Int → Int} {b st : Int} (h : bb_at g b st = none) : (0 ≤ b ∧ b < g 3) ∧ bb_R g b 2 = st := by
  unfold bb_at at h
  split at h
  · rename_i h1
    split at h
    · rename_i h2; exact ⟨h1, h2⟩
    · cases h
  · cases h
theorem bb_at_s {g : Int → Int} {b st r d : Int} (h : bb_at g b st = some (r, d)) : ((0 ≤ b ∧ b < g 3) ∧ bb_R g b 2 ≠ st ∧ r = 4 ∧ d = bb_R g b 2) ∨ (¬ (0 ≤ b ∧ b < g 3) ∧ r = 3 ∧ d = b) := by
  unfold bb_at at h
  split at h
  · rename_i h1
    split at h
    · cases h
    · rename_i h2
      cases h
      exact .inl ⟨h1, h2, rfl, rfl⟩
  · rename_i h1
    cases h
    exact .inr ⟨h1, rfl, rfl⟩
theorem bb_held_n {g : Int → Int} {b : Int} (h : bb_held g b = none) : (0 ≤ b ∧ b < g 3) ∧ bb_R g b 2 = 0 ∧ bb_R g b 4 = 0 := by
  unfold bb_held at h
  split at h
  · cases h
  · rename_i h1
    split at h
    · rename_i h2
      have := bb_at_n h1
      exact ⟨this.1, this.2, h2⟩
    · cases h
theorem bb_held_s {g : Int → Int} {b r d : Int} (h : bb_held g b = some (r, d)) : bb_at g b 0 = some (r, d) ∨ (bb_at g b 0 = none ∧ bb_R g b 4 ≠ 0 ∧ r = 5 ∧ d = bb_R g b 4) := by
  unfold bb_held at h
  split at h
  · rename_i x h1
    cases h
    exact .inl h1
  · rename_i h1
    split at h
    · cases h
    · rename_i h2
      cases h
      exact .inr ⟨h1, h2, rfl, rfl⟩
section
variable {K : ab_Kt} {D : Nat → Int → Int} {L : Nat → Int → Int64} {z : ab_Z}
theorem bb_y152 {r d : Int} : ab_cal K 152 [.ref 500, .int (ab_I r), .int (ab_I d)] (ab_mk D L z) = some (.inl (some (.int (ab_I (0)))), ab_mk (bb_ref D r d) L z) := by
  unfold bb_ref
  simp (discharger := first | assumption | exact True.intro | exact not_false | (refine ab_gK ?_; with_unfolding_all rfl) | exact ab_rgI (by omega) (by omega) | omega) only [ab_a152, ab_e152_0, ab_e152_1, ab_e152_2, ab_e152_5, ab_e152_6, ab_e152_7, ab_e152_10, ab_e152_11, ab_e152_12, ab_e152_15, ab_e152_16, ab_e152_17, ab_e152_20, ab_e152_21, ab_br_t, ab_br_f, ab_re_v (ab_zz _), ab_re_n (ab_zz _)]

theorem bb_y92 {r : Int} (hr : ab_rg r) : ab_cal K 92 [.ref 500, .int (ab_I r)] (ab_mk D L z) = some (.inl (some (.int (ab_I (if 0 < r then 1 else 0)))), ab_mk (ab_u D 500 7 r) L z) := by
  simp (discharger := first | assumption | exact True.intro | exact not_false | (refine ab_gK ?_; with_unfolding_all rfl) | exact ab_rgI (by omega) (by omega) | omega) only [ab_a92, ab_e92_0, ab_e92_1, ab_e92_2, ab_e92_5, ab_e92_6, ab_e92_9, ab_e92_10, ab_e92_13, ab_e92_14, ab_br_t, ab_br_f, ab_re_v (ab_zz _), ab_re_n (ab_zz _)]
  iterate 1 (all_goals (try (refine ab_br_c (fun hc => ?_) (fun hc => ?_) <;> try simp (discharger := first | assumption | exact True.intro | exact not_false | (refine ab_gK ?_; with_unfolding_all rfl) | exact ab_rgI (by omega) (by omega) | omega) only [ab_a92, ab_e92_0, ab_e92_1, ab_e92_2, ab_e92_5, ab_e92_6, ab_e92_9, ab_e92_10, ab_e92_13, ab_e92_14, ab_br_t, ab_br_f, ab_re_v (ab_zz _), ab_re_n (ab_zz _)])))
  all_goals exact ab_fin (by omega) rfl

theorem bb_y155n {c : Int} (hw : bb_WS c (D 501)) {b st : Int} (hb : ab_rg b) (h : bb_at (D 501) b st = none) : ab_cal K 155 [.ref 500, .int (ab_I b), .int (ab_I st)] (ab_mk D L z) = some (.inl (some (.int (ab_I (0)))), (ab_mk D L z)) := by
  obtain ⟨hm, hs⟩ := bb_at_n h
  have w1 := hw.1
  have hb2 := bb_WB_n (hw.2.2.2.2.2.1 b hm.1 hm.2)
  simp (discharger := first | assumption | exact True.intro | exact not_false | (refine ab_gK ?_; with_unfolding_all rfl) | exact ab_rgI (by omega) (by omega) | omega) only [ab_a155, ab_y103, ab_y110, ab_e155_0, ab_e155_1, ab_e155_2, ab_e155_5, ab_e155_8, ab_e155_9, ab_e155_10, ab_e155_11, ab_e155_14, ab_e155_15, ab_e155_18, ab_e155_19, ab_e155_20, ab_e155_21, ab_e155_24, ab_e155_25, ab_e155_28, ab_e155_29, ab_e155_30, ab_e155_31, ab_e155_32, ab_e155_33, ab_e155_36, ab_e155_39, ab_e155_40, ab_e155_43, ab_e155_44, ab_e155_45, ab_e155_46, ab_br_t, ab_br_f, ab_re_v (ab_zz _), ab_re_n (ab_zz _)]

theorem bb_y155s {c : Int} (hw : bb_WS c (D 501)) {b st r d : Int} (hb : ab_rg b) (hst : ab_rg st) (h : bb_at (D 501) b st = some (r, d)) : ab_cal K 155 [.ref 500, .int (ab_I b), .int (ab_I st)] (ab_mk D L z) = some (.inl (some (.int (ab_I (1)))), ab_mk (bb_ref D r d) L z) := by
  have w1 := hw.1
  rcases bb_at_s h with ⟨hm, hs, rfl, rfl⟩ | ⟨hm, rfl, rfl⟩
  · have hb2 := bb_WB_n (hw.2.2.2.2.2.1 b hm.1 hm.2)
    simp (discharger := first | assumption | exact True.intro | exact not_false | (refine ab_gK ?_; with_unfolding_all rfl) | exact ab_rgI (by omega) (by omega) | omega) only [ab_a155, ab_y103, ab_y110, bb_y152, ab_e155_0, ab_e155_1, ab_e155_2, ab_e155_5, ab_e155_8, ab_e155_9, ab_e155_10, ab_e155_11, ab_e155_14, ab_e155_15, ab_e155_18, ab_e155_19, ab_e155_20, ab_e155_21, ab_e155_24, ab_e155_25, ab_e155_28, ab_e155_29, ab_e155_30, ab_e155_31, ab_e155_32, ab_e155_33, ab_e155_36, ab_e155_39, ab_e155_40, ab_e155_43, ab_e155_44, ab_e155_45, ab_e155_46, ab_br_t, ab_br_f, ab_re_v (ab_zz _), ab_re_n (ab_zz _)]
  · have e : ¬ (0 ≤ d ∧ d < D 501 3) := hm
    simp (discharger := first | assumption | exact True.intro | exact not_false | (refine ab_gK ?_; with_unfolding_all rfl) | exact ab_rgI (by omega) (by omega) | omega) only [ab_a155, ab_y103, ab_y110, bb_y152, if_neg e, ab_e155_0, ab_e155_1, ab_e155_2, ab_e155_5, ab_e155_8, ab_e155_9, ab_e155_10, ab_e155_11, ab_e155_14, ab_e155_15, ab_e155_18, ab_e155_19, ab_e155_20, ab_e155_21, ab_e155_24, ab_e155_25, ab_e155_28, ab_e155_29, ab_e155_30, ab_e155_31, ab_e155_32, ab_e155_33, ab_e155_36, ab_e155_39, ab_e155_40, ab_e155_43, ab_e155_44, ab_e155_45, ab_e155_46, ab_br_t, ab_br_f, ab_re_v (ab_zz _), ab_re_n (ab_zz _)]

theorem bb_y167n {c : Int} (hw : bb_WS c (D 501)) {b : Int} (hb : ab_rg b) (h : bb_held (D 501) b = none) : ab_cal K 167 [.ref 500, .int (ab_I b)] (ab_mk D L z) = some (.inl (some (.int (ab_I (0)))), (ab_mk D L z)) := by
  obtain ⟨hm, hs, h4⟩ := bb_held_n h
  have w1 := hw.1
  have ha : bb_at (D 501) b 0 = none := by unfold bb_at; rw [if_pos hm, if_pos hs]
  simp (discharger := first | assumption | exact True.intro | exact not_false | (refine ab_gK ?_; with_unfolding_all rfl) | exact ab_rgI (by omega) (by omega) | omega) only [ab_a167, ab_y110, bb_y155n hw hb ha, ab_e167_0, ab_e167_1, ab_e167_2, ab_e167_3, ab_e167_6, ab_e167_9, ab_e167_10, ab_e167_11, ab_e167_12, ab_e167_13, ab_e167_14, ab_e167_17, ab_e167_20, ab_e167_21, ab_e167_22, ab_e167_23, ab_e167_24, ab_e167_25, ab_e167_26, ab_e167_27, ab_e167_30, ab_e167_33, ab_e167_34, ab_e167_35, ab_br_t, ab_br_f, ab_re_v (ab_zz _), ab_re_n (ab_zz _)]

theorem bb_y167s {c : Int} (hw : bb_WS c (D 501)) {b r d : Int} (hb : ab_rg b) (h : bb_held (D 501) b = some (r, d)) : ab_cal K 167 [.ref 500, .int (ab_I b)] (ab_mk D L z) = some (.inl (some (.int (ab_I (1)))), ab_mk (bb_ref D r d) L z) := by
  have w1 := hw.1
  rcases bb_held_s h with ha | ⟨ha, h4, rfl, rfl⟩
  · have hr0 := ab_rg0
    simp (discharger := first | assumption | exact True.intro | exact not_false | (refine ab_gK ?_; with_unfolding_all rfl) | exact ab_rgI (by omega) (by omega) | omega) only [ab_a167, ab_y110, bb_y155s hw hb ab_rg0 ha, ab_e167_0, ab_e167_1, ab_e167_2, ab_e167_3, ab_e167_6, ab_e167_9, ab_e167_10, ab_e167_11, ab_e167_12, ab_e167_13, ab_e167_14, ab_e167_17, ab_e167_20, ab_e167_21, ab_e167_22, ab_e167_23, ab_e167_24, ab_e167_25, ab_e167_26, ab_e167_27, ab_e167_30, ab_e167_33, ab_e167_34, ab_e167_35, ab_br_t, ab_br_f, ab_re_v (ab_zz _), ab_re_n (ab_zz _)]
  · have hm := (bb_at_n ha).1
    have hb2 := bb_WB_n (hw.2.2.2.2.2.1 b hm.1 hm.2)
    simp (discharger := first | assumption | exact True.intro | exact not_false | (refine ab_gK ?_; with_unfolding_all rfl) | exact ab_rgI (by omega) (by omega) | omega) only [ab_a167, ab_y110, bb_y155n hw hb ha, bb_y152, ab_e167_0, ab_e167_1, ab_e167_2, ab_e167_3, ab_e167_6, ab_e167_9, ab_e167_10, ab_e167_11, ab_e167_12, ab_e167_13, ab_e167_14, ab_e167_17, ab_e167_20, ab_e167_21, ab_e167_22, ab_e167_23, ab_e167_24, ab_e167_25, ab_e167_26, ab_e167_27, ab_e167_30, ab_e167_33, ab_e167_34, ab_e167_35, ab_br_t, ab_br_f, ab_re_v (ab_zz _), ab_re_n (ab_zz _)]

/-- a signature laid into a row -/
def bb_gp (g : Int → Int) (e s f fo t : Int) : Int → Int := bb_g1 (bb_g1 (bb_g1 g (16 + 51 * e + (7 + 3 * s)) f) (16 + 51 * e + (7 + 3 * s + 1)) fo) (16 + 51 * e + (7 + 3 * s + 2)) t
theorem bb_gp_at {g : Int → Int} {e s f fo t : Int} : bb_R (bb_gp g e s f fo t) e (7 + 3 * s + 0) = f ∧ bb_R (bb_gp g e s f fo t) e (7 + 3 * s + 1) = fo ∧ bb_R (bb_gp g e s f fo t) e (7 + 3 * s + 2) = t := by
  unfold bb_R bb_gp bb_g1
  refine ⟨?_, ?_, ?_⟩
  · rw [if_neg (by omega), if_neg (by omega), if_pos (by omega)]
  · rw [if_neg (by omega), if_pos (by omega)]
  · rw [if_pos (by omega)]
theorem bb_gp_ne {g : Int → Int} {e s f fo t k : Int} (h : k < 16 + 51 * e + (7 + 3 * s) ∨ 16 + 51 * e + (7 + 3 * s + 2) < k) : bb_gp g e s f fo t k = g k := by
  unfold bb_gp
  rw [bb_g1_ne (by omega), bb_g1_ne (by omega), bb_g1_ne (by omega)]
theorem bb_gp_R {g : Int → Int} {e e' s f fo t w : Int} (w0 : 0 ≤ w) (w1 : w < 51) (s0 : 0 ≤ s) (s1 : s < 12) (h : e ≠ e' ∨ w < 7 + 3 * s ∨ 7 + 3 * s + 2 < w) : bb_R (bb_gp g e' s f fo t) e w = bb_R g e w := bb_gp_ne (by omega)
theorem bb_y169 {e s f fo t : Int} (e0 : 0 ≤ e) (e1 : e < 6) (s0 : 0 ≤ s) (s1 : s < 12) : ab_cal K 169 [.ref 500, .int (ab_I e), .int (ab_I s), .int (ab_I f), .int (ab_I fo), .int (ab_I t)] (ab_mk D L z) = some (.inl none, ab_mk (bb_row D 501 (bb_gp (D 501) e s f fo t)) L z) := by
  simp (discharger := first | assumption | exact True.intro | exact not_false | (refine ab_gK ?_; with_unfolding_all rfl) | exact ab_rgI (by omega) (by omega) | omega) only [ab_a169, ab_y157, bb_u_row, bb_row_eq, bb_row_row, ab_e169_0, ab_e169_1, ab_e169_2, ab_e169_4, ab_e169_5, ab_e169_6, ab_e169_7, ab_e169_8, ab_e169_9, ab_e169_12, ab_e169_13, ab_e169_14, ab_e169_16, ab_e169_17, ab_e169_18, ab_e169_19, ab_e169_20, ab_e169_21, ab_e169_22, ab_e169_24, ab_e169_27, ab_e169_28, ab_e169_29, ab_e169_31, ab_e169_32, ab_e169_33, ab_e169_34, ab_e169_35, ab_e169_36, ab_e169_37, ab_e169_39, ab_e169_42, ab_br_t, ab_br_f, ab_re_v (ab_zz _), ab_re_n (ab_zz _)]
  rfl

def bb_sw (g : Int → Int) (e s o : Int) : Int → Int := bb_gp (bb_gp g e s (bb_R g e (7 + 3 * o + 0)) (bb_R g e (7 + 3 * o + 1)) (bb_R g e (7 + 3 * o + 2))) e o (bb_R g e (7 + 3 * s + 0)) (bb_R g e (7 + 3 * s + 1)) (bb_R g e (7 + 3 * s + 2))
theorem bb_y168 {e s o : Int} (e0 : 0 ≤ e) (e1 : e < 6) (s0 : 0 ≤ s) (s1 : s < 12) (o0 : 0 ≤ o) (o1 : o < 12) : ab_cal K 168 [.ref 500, .int (ab_I e), .int (ab_I s), .int (ab_I o)] (ab_mk D L z) = some (.inl none, ab_mk (bb_row D 501 (bb_sw (D 501) e s o)) L z) := by
  simp (discharger := first | assumption | exact True.intro | exact not_false | (refine ab_gK ?_; with_unfolding_all rfl) | exact ab_rgI (by omega) (by omega) | omega) only [ab_a168, ab_y111, bb_y169, bb_row_eq, bb_row_row, ab_e168_0, ab_e168_1, ab_e168_2, ab_e168_3, ab_e168_4, ab_e168_7, ab_e168_9, ab_e168_10, ab_e168_11, ab_e168_12, ab_e168_13, ab_e168_16, ab_e168_18, ab_e168_19, ab_e168_20, ab_e168_21, ab_e168_22, ab_e168_25, ab_e168_27, ab_e168_28, ab_e168_29, ab_e168_30, ab_e168_31, ab_e168_32, ab_e168_33, ab_e168_34, ab_e168_37, ab_e168_38, ab_e168_39, ab_e168_40, ab_e168_41, ab_e168_44, ab_e168_45, ab_e168_46, ab_e168_47, ab_e168_48, ab_e168_51, ab_e168_54, ab_e168_55, ab_e168_56, ab_e168_57, ab_e168_59, ab_e168_61, ab_e168_63, ab_e168_66, ab_br_t, ab_br_f, ab_re_v (ab_zz _), ab_re_n (ab_zz _)]
  rfl

/-- 322 ints copied -/
def bb_cp (f src : Int → Int) (at0 on n : Int) : Int → Int := fun k => if on ≤ k ∧ k < on + n then src (at0 + (k - on)) else f k
theorem bb_cp_0 {f src : Int → Int} {at0 on : Int} : bb_cp f src at0 on 0 = f := by
  funext k
  exact if_neg (by omega)
theorem bb_cp_s {f src : Int → Int} {at0 on n : Int} (h : 0 ≤ n) : bb_g1 (bb_cp f src at0 on n) (on + n) (src (at0 + n)) = bb_cp f src at0 on (n + 1) := by
  funext k
  unfold bb_g1 bb_cp
  by_cases h1 : k = on + n
  · subst h1
    rw [if_pos rfl, if_pos (by omega)]
    congr 1
    omega
  · rw [if_neg h1]
    by_cases h2 : on ≤ k ∧ k < on + n
    · rw [if_pos h2, if_pos (by omega)]
    · rw [if_neg h2, if_neg (by omega)]
theorem bb_l93 {K : ab_Kt} {D : Nat → Int → Int} {L : Nat → Int → Int64} {z : ab_Z} {a t : Nat} (ha : ab_mi a) (ht : ab_mi t) (hat : a ≠ t) {at0 on : Int} (h0 : 0 ≤ at0) (h1 : at0 + 322 ≤ ab_ml a) (h2 : 0 ≤ on) (h3 : on + 322 ≤ ab_ml t) (f : Int → Int) (k : Int) (k0 : 0 ≤ k) (k1 : k ≤ 322) (hD : D t = bb_cp f (D a) at0 on k) : ab_ev K 93 3 [some (.ref a), some (.int (ab_I at0)), some (.ref t), some (.int (ab_I on)), some (.int (ab_I k))] [] (ab_mk D L z) = some (.inl none, ab_mk (bb_row D t (bb_cp f (D a) at0 on 322)) L z) := by
  have hla : ab_ml a ≤ 2576 := by rcases ha with rfl | rfl | rfl | rfl <;> decide
  have hlt : ab_ml t ≤ 2576 := by rcases ht with rfl | rfl | rfl | rfl <;> decide
  rw [ab_e93_3]
  by_cases hk : 322 ≤ k
  · simp (discharger := first | assumption | exact True.intro | exact not_false | (refine ab_gK ?_; with_unfolding_all rfl) | exact ab_rgI (by omega) (by omega) | omega) only [ab_e93_0, ab_e93_1, ab_e93_5, ab_e93_8, ab_e93_11, ab_e93_12, ab_e93_13, ab_e93_15, ab_e93_16, ab_e93_17, ab_e93_18, ab_e93_20, ab_e93_21, ab_e93_22, ab_e93_23, ab_e93_26, ab_e93_29, ab_br_t, ab_br_f, ab_re_v (ab_zz _), ab_re_n (ab_zz _)]
    rw [show (322 : Int) = k by omega, ← hD, bb_row_self]
  · simp (discharger := first | assumption | exact True.intro | exact not_false | (refine ab_gK ?_; with_unfolding_all rfl) | exact ab_rgI (by omega) (by omega) | omega) only [ab_e93_0, ab_e93_1, ab_e93_5, ab_e93_8, ab_e93_11, ab_e93_12, ab_e93_13, ab_e93_15, ab_e93_16, ab_e93_17, ab_e93_18, ab_e93_20, ab_e93_21, ab_e93_22, ab_e93_23, ab_e93_26, ab_e93_29, ab_br_t, ab_br_f, ab_re_v (ab_zz _), ab_re_n (ab_zz _)]
    have e := bb_l93 (D := ab_u D t (on + k) (D a (at0 + k))) (L := L) (z := z) (K := K) ha ht hat h0 h1 h2 h3 f (k + 1) (by omega) (by omega) (by rw [bb_u_g1, ab_u_row hat, hD, bb_cp_s k0])
    rw [e, bb_u_row, bb_row_row, bb_row_ne hat]
termination_by (322 - k).toNat
decreasing_by omega

theorem bb_y93 {a t : Nat} (ha : ab_mi a) (ht : ab_mi t) (hat : a ≠ t) {at0 on : Int} (h0 : 0 ≤ at0) (h1 : at0 + 322 ≤ ab_ml a) (h2 : 0 ≤ on) (h3 : on + 322 ≤ ab_ml t) : ab_cal K 93 [.ref a, .int (ab_I at0), .ref t, .int (ab_I on)] (ab_mk D L z) = some (.inl none, ab_mk (bb_row D t (bb_cp (D t) (D a) at0 on 322)) L z) := by
  simp (discharger := first | assumption | exact True.intro | exact not_false | (refine ab_gK ?_; with_unfolding_all rfl) | exact ab_rgI (by omega) (by omega) | omega) only [ab_a93, ab_e93_0, ab_e93_1, ab_e93_5, ab_e93_8, ab_e93_11, ab_e93_12, ab_e93_13, ab_e93_15, ab_e93_16, ab_e93_17, ab_e93_18, ab_e93_20, ab_e93_21, ab_e93_22, ab_e93_23, ab_e93_26, ab_e93_29, ab_br_t, ab_br_f, ab_re_v (ab_zz _), ab_re_n (ab_zz _)]
  exact bb_l93 ha ht hat h0 h1 h2 h3 (D t) 0 (by omega) (by omega) bb_cp_0.symm

/-- the rows of what is kept, one place on -/
def bb_sh (f : Int → Int) (n : Int) : Int → Int := fun k => if 0 ≤ k ∧ k < n then f (k + 322) else f k
theorem bb_sh_0 {f : Int → Int} : bb_sh f 0 = f := by
  funext k
  exact if_neg (by omega)
theorem bb_sh_s {f : Int → Int} {n : Int} (h : 0 ≤ n) : bb_g1 (bb_sh f n) n (bb_sh f n (n + 322)) = bb_sh f (n + 1) := by
  funext k
  unfold bb_g1 bb_sh
  by_cases h1 : k = n
  · subst h1
    rw [if_pos rfl, if_neg (by omega), if_pos (by omega)]
  · rw [if_neg h1]
    by_cases h2 : 0 ≤ k ∧ k < n
    · rw [if_pos h2, if_pos (by omega)]
    · rw [if_neg h2, if_neg (by omega)]
/-- what is kept, with one more -/
def bb_kp (f src : Int → Int) (ch : Int) : Int → Int := if ch = 8 then bb_cp (bb_sh f 2254) src 0 2254 322 else bb_cp f src 0 (322 * ch) 322
def bb_keep (D : Nat → Int → Int) (a : Nat) : Nat → Int → Int := if D 500 6 = 1 then ab_u D 500 7 0 else bb_row (ab_u (ab_u D 500 7 0) 500 5 (if D 500 5 = 8 then 8 else D 500 5 + 1)) 502 (bb_kp (D 502) (D a) (D 500 5))
theorem bb_u_u {D : Nat → Int → Int} {i : Nat} {k v v' : Int} : ab_u (ab_u D i k v) i k v' = ab_u D i k v' := by
  rw [bb_u_row, bb_u_row, bb_u_row, bb_row_row, bb_row_eq]
  congr 1
  funext j
  unfold bb_g1
  split <;> rfl
theorem bb_row_u {D : Nat → Int → Int} {i j : Nat} {k v : Int} {r : Int → Int} (h : i ≠ j) : ab_u (bb_row D j r) i k v = bb_row (ab_u D i k v) j r := by
  funext q
  by_cases h1 : q = j
  · subst h1
    rw [ab_u_row (fun x => h x.symm), bb_row_eq, bb_row_eq]
  · rw [bb_row_ne h1]
    by_cases h2 : q = i
    · subst h2
      rw [bb_u_g1, bb_u_g1, bb_row_ne h1]
    · rw [ab_u_row h2, ab_u_row h2, bb_row_ne h1]
theorem bb_l117 {K : ab_Kt} {D : Nat → Int → Int} {L : Nat → Int → Int64} {z : ab_Z} {a : Nat} {E : Option (ab_O × ab_H)} (f : Int → Int) (k : Int) (k0 : 0 ≤ k) (k1 : k ≤ 2254) (hD : D 502 = bb_sh f k) (hE : ab_ev K 117 53 [some (.ref 500), some (.ref a), some (.int (ab_I 2254))] [] (ab_mk (bb_row D 502 (bb_sh f 2254)) L z) = E) : ab_ev K 117 24 [some (.ref 500), some (.ref a), some (.int (ab_I k))] [] (ab_mk D L z) = E := by
  rw [ab_e117_24]
  by_cases hk : 2254 ≤ k
  · simp (discharger := first | assumption | exact True.intro | exact not_false | (refine ab_gK ?_; with_unfolding_all rfl) | exact ab_rgI (by omega) (by omega) | omega) only [ab_e117_0, ab_e117_1, ab_e117_2, ab_e117_5, ab_e117_6, ab_e117_9, ab_e117_12, ab_e117_13, ab_e117_14, ab_e117_17, ab_e117_19, ab_e117_22, ab_e117_23, ab_e117_25, ab_e117_28, ab_e117_31, ab_e117_32, ab_e117_35, ab_e117_36, ab_e117_37, ab_e117_40, ab_e117_41, ab_e117_44, ab_e117_45, ab_e117_46, ab_e117_47, ab_e117_50, ab_e117_54, ab_e117_55, ab_e117_58, ab_e117_59, ab_e117_60, ab_e117_63, ab_e117_64, ab_e117_65, ab_e117_66, ab_e117_69, ab_e117_72, ab_e117_73, ab_e117_76, ab_e117_77, ab_e117_80, ab_e117_81, ab_e117_82, ab_e117_85, ab_e117_86, ab_e117_87, ab_e117_90, ab_br_t, ab_br_f, ab_re_v (ab_zz _), ab_re_n (ab_zz _)]
    have ek : k = 2254 := by omega
    rw [ek]
    rw [← ek, ← hD, bb_row_self, ek] at hE
    exact hE
  · simp (discharger := first | assumption | exact True.intro | exact not_false | (refine ab_gK ?_; with_unfolding_all rfl) | exact ab_rgI (by omega) (by omega) | omega) only [ab_e117_0, ab_e117_1, ab_e117_2, ab_e117_5, ab_e117_6, ab_e117_9, ab_e117_12, ab_e117_13, ab_e117_14, ab_e117_17, ab_e117_19, ab_e117_22, ab_e117_23, ab_e117_25, ab_e117_28, ab_e117_31, ab_e117_32, ab_e117_35, ab_e117_36, ab_e117_37, ab_e117_40, ab_e117_41, ab_e117_44, ab_e117_45, ab_e117_46, ab_e117_47, ab_e117_50, ab_e117_54, ab_e117_55, ab_e117_58, ab_e117_59, ab_e117_60, ab_e117_63, ab_e117_64, ab_e117_65, ab_e117_66, ab_e117_69, ab_e117_72, ab_e117_73, ab_e117_76, ab_e117_77, ab_e117_80, ab_e117_81, ab_e117_82, ab_e117_85, ab_e117_86, ab_e117_87, ab_e117_90, ab_br_t, ab_br_f, ab_re_v (ab_zz _), ab_re_n (ab_zz _)]
    refine bb_l117 (D := ab_u D 502 k (D 502 (k + 322))) f (k + 1) (by omega) (by omega) (by rw [bb_u_g1, hD, bb_sh_s k0]) ?_
    rw [bb_u_row, bb_row_row]
    exact hE
termination_by (2254 - k).toNat
decreasing_by omega

theorem bb_y117 {a : Nat} (ha : a = 501 ∨ a = 504) (hc : 0 ≤ D 500 5 ∧ D 500 5 ≤ 8) (hi : D 500 6 = 0 ∨ D 500 6 = 1) : ab_cal K 117 [.ref 500, .ref a] (ab_mk D L z) = some (.inl none, ab_mk (bb_keep D a) L z) := by
  have hm : ab_mi a := by rcases ha with rfl | rfl; exact .inl rfl; exact .inr (.inr (.inr rfl))
  have hml : ab_ml a = 322 := by rcases ha with rfl | rfl <;> rfl
  have hm2 : ab_mi 502 := .inr (.inl rfl)
  have hne : a ≠ 502 := by rcases ha with rfl | rfl <;> decide
  have hne2 : a ≠ 500 := by rcases ha with rfl | rfl <;> decide
  have hl2 : (ab_ml 502 : Int) = 2576 := rfl
  have n1 : (502 : Nat) ≠ 500 := by decide
  have n2 : (500 : Nat) ≠ 502 := by decide
  have u5 : ab_u D 500 7 0 500 5 = D 500 5 := ab_u_ne (.inr (by decide))
  have u6 : ab_u D 500 7 0 500 6 = D 500 6 := ab_u_ne (.inr (by decide))
  unfold bb_keep
  by_cases h6 : D 500 6 = 1
  · rw [if_pos h6]
    simp (discharger := first | assumption | exact True.intro | exact not_false | (refine ab_gK ?_; with_unfolding_all rfl) | exact ab_rgI (by omega) (by omega) | omega) only [ab_a117, u5, u6, ab_e117_0, ab_e117_1, ab_e117_2, ab_e117_5, ab_e117_6, ab_e117_9, ab_e117_12, ab_e117_13, ab_e117_14, ab_e117_17, ab_e117_19, ab_e117_22, ab_e117_23, ab_e117_25, ab_e117_28, ab_e117_31, ab_e117_32, ab_e117_35, ab_e117_36, ab_e117_37, ab_e117_40, ab_e117_41, ab_e117_44, ab_e117_45, ab_e117_46, ab_e117_47, ab_e117_50, ab_e117_53, ab_e117_54, ab_e117_55, ab_e117_58, ab_e117_59, ab_e117_60, ab_e117_63, ab_e117_64, ab_e117_65, ab_e117_66, ab_e117_69, ab_e117_72, ab_e117_73, ab_e117_76, ab_e117_77, ab_e117_80, ab_e117_81, ab_e117_82, ab_e117_85, ab_e117_86, ab_e117_87, ab_e117_90, ab_br_t, ab_br_f, ab_re_v (ab_zz _), ab_re_n (ab_zz _)]
  · rw [if_neg h6]
    by_cases h8 : D 500 5 = 8
    · rw [if_pos h8]
      unfold bb_kp
      rw [if_pos h8]
      simp (discharger := first | assumption | exact True.intro | exact not_false | (refine ab_gK ?_; with_unfolding_all rfl) | exact ab_rgI (by omega) (by omega) | omega) only [ab_a117, u5, u6, ab_e117_0, ab_e117_1, ab_e117_2, ab_e117_5, ab_e117_6, ab_e117_9, ab_e117_12, ab_e117_13, ab_e117_14, ab_e117_17, ab_e117_19, ab_e117_22, ab_e117_23, ab_e117_25, ab_e117_28, ab_e117_31, ab_e117_32, ab_e117_35, ab_e117_36, ab_e117_37, ab_e117_40, ab_e117_41, ab_e117_44, ab_e117_45, ab_e117_46, ab_e117_47, ab_e117_50, ab_e117_53, ab_e117_54, ab_e117_55, ab_e117_58, ab_e117_59, ab_e117_60, ab_e117_63, ab_e117_64, ab_e117_65, ab_e117_66, ab_e117_69, ab_e117_72, ab_e117_73, ab_e117_76, ab_e117_77, ab_e117_80, ab_e117_81, ab_e117_82, ab_e117_85, ab_e117_86, ab_e117_87, ab_e117_90, ab_br_t, ab_br_f, ab_re_v (ab_zz _), ab_re_n (ab_zz _)]
      refine bb_l117 (D 502) 0 (by omega) (by omega) (by rw [ab_u_row n1, bb_sh_0]) ?_
      simp (discharger := first | assumption | exact True.intro | exact not_false | (refine ab_gK ?_; with_unfolding_all rfl) | exact ab_rgI (by omega) (by omega) | omega) only [bb_y93 hm hm2 hne, bb_row_ne n2, u5, h8, ab_u_eq, bb_row_u n2, bb_row_row, ab_u_row n1, ab_u_row hne2, bb_row_ne hne, bb_row_eq, bb_u_u, ab_e117_0, ab_e117_1, ab_e117_2, ab_e117_5, ab_e117_6, ab_e117_9, ab_e117_12, ab_e117_13, ab_e117_14, ab_e117_17, ab_e117_19, ab_e117_22, ab_e117_23, ab_e117_25, ab_e117_28, ab_e117_31, ab_e117_32, ab_e117_35, ab_e117_36, ab_e117_37, ab_e117_40, ab_e117_41, ab_e117_44, ab_e117_45, ab_e117_46, ab_e117_47, ab_e117_50, ab_e117_53, ab_e117_54, ab_e117_55, ab_e117_58, ab_e117_59, ab_e117_60, ab_e117_63, ab_e117_64, ab_e117_65, ab_e117_66, ab_e117_69, ab_e117_72, ab_e117_73, ab_e117_76, ab_e117_77, ab_e117_80, ab_e117_81, ab_e117_82, ab_e117_85, ab_e117_86, ab_e117_87, ab_e117_90, ab_br_t, ab_br_f, ab_re_v (ab_zz _), ab_re_n (ab_zz _)]
      rfl
    · rw [if_neg h8]
      unfold bb_kp
      rw [if_neg h8]
      simp (discharger := first | assumption | exact True.intro | exact not_false | (refine ab_gK ?_; with_unfolding_all rfl) | exact ab_rgI (by omega) (by omega) | omega) only [ab_a117, u5, u6, bb_y93 hm hm2 hne, bb_row_ne n2, bb_row_u n2, ab_u_row n1, ab_u_row hne2, ab_e117_0, ab_e117_1, ab_e117_2, ab_e117_5, ab_e117_6, ab_e117_9, ab_e117_12, ab_e117_13, ab_e117_14, ab_e117_17, ab_e117_19, ab_e117_22, ab_e117_23, ab_e117_25, ab_e117_28, ab_e117_31, ab_e117_32, ab_e117_35, ab_e117_36, ab_e117_37, ab_e117_40, ab_e117_41, ab_e117_44, ab_e117_45, ab_e117_46, ab_e117_47, ab_e117_50, ab_e117_53, ab_e117_54, ab_e117_55, ab_e117_58, ab_e117_59, ab_e117_60, ab_e117_63, ab_e117_64, ab_e117_65, ab_e117_66, ab_e117_69, ab_e117_72, ab_e117_73, ab_e117_76, ab_e117_77, ab_e117_80, ab_e117_81, ab_e117_82, ab_e117_85, ab_e117_86, ab_e117_87, ab_e117_90, ab_br_t, ab_br_f, ab_re_v (ab_zz _), ab_re_n (ab_zz _)]

end
