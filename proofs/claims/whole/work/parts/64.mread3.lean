/-! ===== the whole text, in the model ===== -/
/-- from the command q at p on, what was read lies in the table -/
def bb_TT (c : Int → Int) (n : Int) : Nat → Int → Int → (Int → Int) → Prop
  | 0, _, _, _ => True
  | f + 1, p, q, T => (bb_pr c n p).1 = 1 → bb_TQ c n p q T ∧ (((bb_pr c n p).2 < n ∧ c ((bb_pr c n p).2) = 59) → bb_TT c n f ((bb_pr c n p).2 + 1) (q + 1) T)
theorem bb_TT1 (c : Int → Int) (n p q : Int) (T : Int → Int) (f : Nat) : bb_TT c n (f + 1) p q T = ((bb_pr c n p).1 = 1 → bb_TQ c n p q T ∧ (((bb_pr c n p).2 < n ∧ c ((bb_pr c n p).2) = 59) → bb_TT c n f ((bb_pr c n p).2 + 1) (q + 1) T)) := rfl
theorem bb_TQ_fr {c : Int → Int} {n p q : Int} {T T' : Int → Int} (h : ∀ j, j < 5 * (q + 1) → T' j = T j) (hq : bb_TQ c n p q T) : bb_TQ c n p q T' := by
  unfold bb_TQ
  rw [h _ (by omega), h _ (by omega), h _ (by omega), h _ (by omega), h _ (by omega)]
  exact hq
theorem bb_l115 {K : ab_Kt} {D : Nat → Int → Int} {L : Nat → Int → Int64} {z : ab_Z} {c : Int → Int} {n : Int} (hY : bb_Y D c n) (f : Nat) (q p : Int) (T : Int → Int) (p0 : 0 ≤ p) (pn : p ≤ n) (q0 : 0 ≤ q) (qp : 3 * q ≤ p) (hf : 60 < p + f) : ∃ T9, (∀ j, j < 5 * q → T9 j = T j) ∧ bb_TT c n f p q T9 ∧ ab_ev K 115 10 [some (.ref 500)] [] (ab_mk (bb_M D (p) (q) T) L z) = some (.inl (some (.int (ab_I (if (bb_fl c n f p q).1 = -1 then 1 else 0)))), ab_mk (bb_M D (if (bb_fl c n f p q).1 = -1 then n else (bb_fl c n f p q).1) (bb_fl c n f p q).2 T9) L z) := by
  obtain ⟨⟨n0, n60⟩, y1, y2⟩ := id hY
  have hcj : ∀ j, 0 ≤ j → j < n → D 505 j = c j := fun j a b => (y2 j a b).1
  have hc1 : ∀ j, 0 ≤ j → j < n → ab_rg (c j) := fun j a b => ab_rgI (by have := (y2 j a b).2.1; omega) (by have := (y2 j a b).2.2; omega)
  cases f with
  | zero => omega
  | succ f =>
    have hq : q ≤ 20 := by omega
    obtain ⟨r1, r2, r3, r4⟩ := bb_pr_rg c n p pn
    have r0 : 0 ≤ (bb_pr c n p).2 := by omega
    obtain ⟨T1, h1, h2, h8⟩ := bb_y196 (K := K) (D := D) (L := L) (z := z) hY (q := q) (p := p) (T := T) q0 hq p0 pn
    rw [bb_fl1, ab_e115_10]
    by_cases h3 : (bb_pr c n p).1 = 0
    · rw [if_pos h3]
      rw [h3] at h1
      dsimp only
      rw [if_neg (by omega), if_neg (by omega)]
      refine ⟨T1, h2, ?_, ?_⟩
      · rw [bb_TT1]
        intro x
        omega
      · skip
        simp (discharger := first | assumption | exact True.intro | exact not_false | (refine ab_gK ?_; with_unfolding_all rfl) | exact ab_rgI (by omega) (by omega) | omega) only [h1, bb_M12, bb_M16, bb_M18, bb_M505, bb_M507, bb_V16, bb_V18, bb_V507, ab_e115_0, ab_e115_1, ab_e115_2, ab_e115_5, ab_e115_6, ab_e115_7, ab_e115_11, ab_e115_14, ab_e115_17, ab_e115_18, ab_e115_19, ab_e115_20, ab_e115_21, ab_e115_24, ab_e115_25, ab_e115_26, ab_e115_29, ab_e115_30, ab_e115_32, ab_e115_35, ab_e115_38, ab_e115_39, ab_e115_42, ab_e115_43, ab_e115_46, ab_e115_49, ab_e115_50, ab_e115_53, ab_e115_54, ab_br_t, ab_br_f, ab_re_v (ab_zz _), ab_re_n (ab_zz _)]
    have h4 : (bb_pr c n p).1 = 1 := by omega
    rw [if_neg h3]
    rw [h4] at h1
    have h9 := h8 h4
    by_cases h5 : n ≤ (bb_pr c n p).2
    · rw [if_pos h5]
      dsimp only
      rw [if_pos rfl, if_pos rfl]
      have h6 : (bb_pr c n p).2 = n := by omega
      rw [h6] at h1
      refine ⟨T1, h2, ?_, ?_⟩
      · rw [bb_TT1]
        exact fun _ => ⟨h9, fun x => absurd x.1 (by omega)⟩
      · skip
        simp (discharger := first | assumption | exact True.intro | exact not_false | (refine ab_gK ?_; with_unfolding_all rfl) | exact ab_rgI (by omega) (by omega) | omega) only [h1, y1, bb_y197t hY n0 (Int.le_refl n) (x := 59) (by decide) (fun e => absurd e.1 (by omega)), bb_M12, bb_M16, bb_M18, bb_M505, bb_M507, bb_V16, bb_V18, bb_V507, ab_e115_0, ab_e115_1, ab_e115_2, ab_e115_5, ab_e115_6, ab_e115_7, ab_e115_11, ab_e115_14, ab_e115_17, ab_e115_18, ab_e115_19, ab_e115_20, ab_e115_21, ab_e115_24, ab_e115_25, ab_e115_26, ab_e115_29, ab_e115_30, ab_e115_32, ab_e115_35, ab_e115_38, ab_e115_39, ab_e115_42, ab_e115_43, ab_e115_46, ab_e115_49, ab_e115_50, ab_e115_53, ab_e115_54, ab_br_t, ab_br_f, ab_re_v (ab_zz _), ab_re_n (ab_zz _)]
    rw [if_neg h5]
    have h6 : (bb_pr c n p).2 < n := by omega
    by_cases h7 : c (bb_pr c n p).2 = 59
    · rw [if_pos h7]
      obtain ⟨T9, i1, i2, i3⟩ := bb_l115 (K := K) (D := D) (L := L) (z := z) hY f (q + 1) ((bb_pr c n p).2 + 1) T1 (by omega) (by omega) (by omega) (by omega) (by omega)
      refine ⟨T9, fun j hj => (i1 j (by omega)).trans (h2 j hj), ?_, ?_⟩
      · rw [bb_TT1]
        exact fun _ => ⟨bb_TQ_fr i1 h9, fun _ => i2⟩
      · rw [← i3]
        simp (discharger := first | assumption | exact True.intro | exact not_false | (refine ab_gK ?_; with_unfolding_all rfl) | exact ab_rgI (by omega) (by omega) | omega) only [h1, y1, bb_y197 hY r0 r3 (x := 59) (by decide) ⟨h6, h7⟩, bb_M12, bb_M16, bb_M18, bb_M505, bb_M507, bb_V16, bb_V18, bb_V507, ab_e115_0, ab_e115_1, ab_e115_2, ab_e115_5, ab_e115_6, ab_e115_7, ab_e115_11, ab_e115_14, ab_e115_17, ab_e115_18, ab_e115_19, ab_e115_20, ab_e115_21, ab_e115_24, ab_e115_25, ab_e115_26, ab_e115_29, ab_e115_30, ab_e115_32, ab_e115_35, ab_e115_38, ab_e115_39, ab_e115_42, ab_e115_43, ab_e115_46, ab_e115_49, ab_e115_50, ab_e115_53, ab_e115_54, ab_br_t, ab_br_f, ab_re_v (ab_zz _), ab_re_n (ab_zz _)]
    · rw [if_neg h7]
      dsimp only
      rw [if_neg (by omega), if_neg (by omega)]
      refine ⟨T1, h2, ?_, ?_⟩
      · rw [bb_TT1]
        exact fun _ => ⟨h9, fun x => absurd x.2 h7⟩
      · skip
        simp (discharger := first | assumption | exact True.intro | exact not_false | (refine ab_gK ?_; with_unfolding_all rfl) | exact ab_rgI (by omega) (by omega) | omega) only [h1, y1, bb_y197t hY r0 r3 (x := 59) (by decide) (fun x => h7 x.2), bb_M12, bb_M16, bb_M18, bb_M505, bb_M507, bb_V16, bb_V18, bb_V507, ab_e115_0, ab_e115_1, ab_e115_2, ab_e115_5, ab_e115_6, ab_e115_7, ab_e115_11, ab_e115_14, ab_e115_17, ab_e115_18, ab_e115_19, ab_e115_20, ab_e115_21, ab_e115_24, ab_e115_25, ab_e115_26, ab_e115_29, ab_e115_30, ab_e115_32, ab_e115_35, ab_e115_38, ab_e115_39, ab_e115_42, ab_e115_43, ab_e115_46, ab_e115_49, ab_e115_50, ab_e115_53, ab_e115_54, ab_br_t, ab_br_f, ab_re_v (ab_zz _), ab_re_n (ab_zz _)]

theorem bb_y115 {K : ab_Kt} {D : Nat → Int → Int} {L : Nat → Int → Int64} {z : ab_Z} {c : Int → Int} {n : Int} (hY : bb_Y D c n) : ∃ T9, bb_TT c n 61 0 0 T9 ∧ ab_cal K 115 [.ref 500] (ab_mk D L z) = some (.inl (some (.int (ab_I (if (bb_fl c n 61 0 0).1 = -1 then 1 else 0)))), ab_mk (bb_M D (if (bb_fl c n 61 0 0).1 = -1 then n else (bb_fl c n 61 0 0).1) (bb_fl c n 61 0 0).2 T9) L z) := by
  obtain ⟨T9, h1, h2, h3⟩ := bb_l115 (K := K) (D := D) (L := L) (z := z) hY 61 0 0 (D 507) (Int.le_refl _) hY.1.1 (Int.le_refl _) (Int.le_refl _) (by decide)
  refine ⟨T9, h2, ?_⟩
  rw [← h3, ab_a115]
  have e : ab_mk D L z = ab_mk (bb_M D (D 500 16) (D 500 18) (D 507)) L z := congrArg (fun x => ab_mk x L z) bb_Mself
  rw [e]
  simp (discharger := first | assumption | exact True.intro | exact not_false | (refine ab_gK ?_; with_unfolding_all rfl) | exact ab_rgI (by omega) (by omega) | omega) only [bb_M12, bb_M16, bb_M18, bb_M505, bb_M507, bb_V16, bb_V18, bb_V507, ab_e115_0, ab_e115_1, ab_e115_2, ab_e115_5, ab_e115_6, ab_e115_7, ab_e115_11, ab_e115_14, ab_e115_17, ab_e115_18, ab_e115_19, ab_e115_20, ab_e115_21, ab_e115_24, ab_e115_25, ab_e115_26, ab_e115_29, ab_e115_30, ab_e115_32, ab_e115_35, ab_e115_38, ab_e115_39, ab_e115_42, ab_e115_43, ab_e115_46, ab_e115_49, ab_e115_50, ab_e115_53, ab_e115_54, ab_br_t, ab_br_f, ab_re_v (ab_zz _), ab_re_n (ab_zz _)]

