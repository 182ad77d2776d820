/-! ===== when a press is ready ===== -/
def bb_xN (f : Int → Int) : Nat → Int
  | 0 => 0
  | n + 1 => max (bb_xN f n) (f n)
/-- the greatest of 0 and the first n -/
def bb_mx (f : Int → Int) (n : Int) : Int := bb_xN f n.toNat
theorem bb_mx0 {f : Int → Int} : bb_mx f 0 = 0 := rfl
theorem bb_mx1 {f : Int → Int} {n : Int} (h : 0 ≤ n) : bb_mx f (n + 1) = max (bb_mx f n) (f n) := by
  obtain ⟨k, rfl⟩ := Int.eq_ofNat_of_zero_le h
  rfl
theorem bb_mx_rg {f : Int → Int} {n c : Int} (h : 0 ≤ n) (hc : 0 ≤ c) (hf : ∀ i, 0 ≤ i → i < n → f i ≤ c) : 0 ≤ bb_mx f n ∧ bb_mx f n ≤ c := by
  revert hf
  refine ab_Sind (P := fun n => (∀ i, 0 ≤ i → i < n → f i ≤ c) → 0 ≤ bb_mx f n ∧ bb_mx f n ≤ c) (fun _ => ⟨Int.le_refl _, hc⟩) (fun n h ih hf => ?_) n h
  have h1 := ih (fun i a d => hf i a (by omega))
  have h2 := hf n h (by omega)
  rw [bb_mx1 h]
  omega
theorem bb_mx_ge {f : Int → Int} {n : Int} (h : 0 ≤ n) : ∀ i, 0 ≤ i → i < n → f i ≤ bb_mx f n := by
  refine ab_Sind (P := fun n => ∀ i, 0 ≤ i → i < n → f i ≤ bb_mx f n) (fun i a d => by omega) (fun n h ih i a d => ?_) n h
  rw [bb_mx1 h]
  by_cases hi : i = n
  · rw [hi]; omega
  · have := ih i a (by omega)
    omega
/-- the minutes that the k-th book of the press p still needs -/
def bb_pk (g : Int → Int) (p k : Int) : Int := ab_rneed g (g (8 + 4 * p + 1 + k))
def bb_pm (g : Int → Int) (p : Int) : Int := bb_mx (bb_pk g p) (g (8 + 4 * p))
theorem bb_pk_rg {c : Int} {g : Int → Int} (hw : bb_WS c g) {p k : Int} (p0 : 0 ≤ p) (p1 : p < 2) (k0 : 0 ≤ k) (k1 : k < g (8 + 4 * p)) : 0 ≤ bb_pk g p k ∧ bb_pk g p k ≤ 30 := by
  have h1 := hw.2.2.2.2.2.2.2.1 p k p0 p1 k0 k1
  exact bb_nd_rg (hw.2.2.2.2.2.1 _ h1.1.1 h1.1.2) hw.2.2.1.1
theorem bb_mxk_rg {c : Int} {g : Int → Int} (hw : bb_WS c g) {p k : Int} (p0 : 0 ≤ p) (p1 : p < 2) (k0 : 0 ≤ k) (k1 : k ≤ g (8 + 4 * p)) : 0 ≤ bb_mx (bb_pk g p) k ∧ bb_mx (bb_pk g p) k ≤ 30 := bb_mx_rg k0 (by decide) (fun i a d => (bb_pk_rg hw p0 p1 a (by omega)).2)
theorem bb_pk_f {c : Int} {g : Int → Int} (hw : bb_WS c g) {p k : Int} (p0 : 0 ≤ p) (p1 : p < 2) (k0 : 0 ≤ k) (k1 : k < g (8 + 4 * p)) : bb_pk g p k = max 0 (bb_R g (g (8 + 4 * p + 1 + k)) 6 - g 0) ∧ 0 ≤ bb_R g (g (8 + 4 * p + 1 + k)) 6 ∧ bb_R g (g (8 + 4 * p + 1 + k)) 6 ≤ g 0 + 30 := by
  have h1 := hw.2.2.2.2.2.2.2.1 p k p0 p1 k0 k1
  have n := bb_WB_n (hw.2.2.2.2.2.1 _ h1.1.1 h1.1.2)
  refine ⟨if_neg ?_, n.2.2.2.2.2.2.1⟩
  have h2 := h1.2
  have h3 := n.2.2.2.2.2.2.2
  omega
theorem bb_y201 {K : ab_Kt} {D : Nat → Int → Int} {L : Nat → Int → Int64} {z : ab_Z} {c : Int} {g : Int → Int} (hw : bb_WS c g) (hk : bb_KS D L 19 g) {p : Int} (hp : ab_rg p) (hx : 0 ≤ p ∧ p < 2) (hh : g (8 + 4 * p) ≠ 0) : ab_cal K 201 [.ref 17, .int (ab_I p)] (ab_mk D L z) = some (.inl (some (.ref (ab_pI 19 p))), (ab_mk D L z)) := by
  have hsp := ab_sp0
  have hps := ab_ps_pI hsp hx.1 hx.2
  have hgt := hw.2.2.2.2.2.2.1 p hx.1 hx.2
  have hk1 := (hk.2.1 p hx.1 hx.2).1
  simp (discharger := first | assumption | exact True.intro | exact not_false | (refine ab_gK ?_; with_unfolding_all rfl) | exact ab_rgI (by omega) (by omega) | omega) only [ab_a201, bb_y203 hp hx, hk1, ab_e201_0, ab_e201_1, ab_e201_2, ab_e201_5, ab_e201_6, ab_e201_7, ab_e201_10, ab_e201_13, ab_e201_21, ab_e201_22, ab_br_t, ab_br_f, ab_re_v (ab_zz _), ab_re_n (ab_zz _)]

theorem bb_y201e {K : ab_Kt} {D : Nat → Int → Int} {L : Nat → Int → Int64} {z : ab_Z} {c : Int} {g : Int → Int} (hw : bb_WS c g) (hk : bb_KS D L 19 g) {p : Int} (hp : ab_rg p) (hx : 0 ≤ p ∧ p < 2) (hh : g (8 + 4 * p) = 0) : ab_cal K 201 [.ref 17, .int (ab_I p)] (ab_mk D L z) = some (.inr "java/util/NoSuchElementException", ab_mk D L (ab_zx z)) := by
  have hsp := ab_sp0
  have hps := ab_ps_pI hsp hx.1 hx.2
  have hk1 : D (ab_pI 19 p) 1 = 0 := (hk.2.1 p hx.1 hx.2).1.trans hh
  simp (discharger := first | assumption | exact True.intro | exact not_false | (refine ab_gK ?_; with_unfolding_all rfl) | exact ab_rgI (by omega) (by omega) | omega) only [ab_a201, bb_y203 hp hx, hk1, ab_e201_0, ab_e201_1, ab_e201_2, ab_e201_5, ab_e201_6, ab_e201_7, ab_e201_10, ab_e201_13, ab_e201_21, ab_e201_22, ab_br_t, ab_br_f, ab_re_v (ab_zz _), ab_re_n (ab_zz _)]

theorem bb_y201t {K : ab_Kt} {D : Nat → Int → Int} {L : Nat → Int → Int64} {z : ab_Z} {p : Int} (hp : ab_rg p) (hx : ¬ (0 ≤ p ∧ p < 2)) : ab_cal K 201 [.ref 17, .int (ab_I p)] (ab_mk D L z) = some (.inr "java/lang/IndexOutOfBoundsException", ab_mk D L (ab_zx z)) := by
  have hsp := ab_sp0
  simp (discharger := first | assumption | exact True.intro | exact not_false | (refine ab_gK ?_; with_unfolding_all rfl) | exact ab_rgI (by omega) (by omega) | omega) only [ab_a201, bb_y203t hp hx, ab_re_t (M := 201) (pc := 2) (E := "java/lang/IndexOutOfBoundsException") (by rfl) (ab_zzx _), ab_e201_0, ab_e201_1, ab_e201_2, ab_e201_5, ab_e201_6, ab_e201_7, ab_e201_10, ab_e201_13, ab_e201_21, ab_e201_22, ab_br_t, ab_br_f, ab_re_v (ab_zz _), ab_re_n (ab_zz _)]

theorem bb_l124 {K : ab_Kt} {D : Nat → Int → Int} {L : Nat → Int → Int64} {z : ab_Z} {c : Int} {g : Int → Int} (hw : bb_WS c g) (hk : bb_KS D L 19 g) {p : Int} (p0 : 0 ≤ p) (p1 : p < 2) (k a : Int) (k0 : 0 ≤ k) (k1 : k ≤ g (8 + 4 * p)) (ha : a = bb_mx (bb_pk g p) k) : ab_ev K 124 11 [some (.ref 17), some (.int (ab_I p)), some (.ref (ab_pI 19 p)), some (.int (ab_I a)), some (.int (ab_I k))] [] (ab_mk D L z) = some (.inl (some (.int (ab_I (bb_pm g p)))), (ab_mk D L z)) := by
  have hsp := ab_sp0
  have hps := ab_ps_pI hsp p0 p1
  have hgt := hw.2.2.2.2.2.2.1 p p0 p1
  have hk1 := (hk.2.1 p p0 p1).1
  have m := bb_WS_n hw
  have hmx := bb_mxk_rg hw p0 p1 k0 k1
  rw [ab_e124_11]
  by_cases hx : g (8 + 4 * p) ≤ k
  · simp (discharger := first | assumption | exact True.intro | exact not_false | (refine ab_gK ?_; with_unfolding_all rfl) | exact ab_rgI (by omega) (by omega) | omega) only [hk1, ab_e124_0, ab_e124_1, ab_e124_2, ab_e124_5, ab_e124_6, ab_e124_7, ab_e124_8, ab_e124_9, ab_e124_13, ab_e124_14, ab_e124_17, ab_e124_20, ab_e124_21, ab_e124_22, ab_e124_25, ab_e124_28, ab_e124_29, ab_e124_32, ab_e124_34, ab_e124_35, ab_e124_36, ab_e124_39, ab_e124_42, ab_e124_43, ab_e124_46, ab_e124_49, ab_e124_50, ab_br_t, ab_br_f, ab_re_v (ab_zz _), ab_re_n (ab_zz _)]
    exact ab_fin (by rw [ha, show k = g (8 + 4 * p) by omega]; rfl) rfl
  · have hk2 := (hk.2.1 p p0 p1).2 k k0 (by omega)
    have hbk9 := hw.2.2.2.2.2.2.2.1 p k p0 p1 k0 (by omega)
    have hbk := ab_bk_bI hsp hbk9.1.1 (e := g (8 + 4 * p + 1 + k)) (by omega)
    have h7 := (hk.2.2.2.1 _ hbk9.1.1 hbk9.1.2).2.1
    have h7e : bb_nd g (g (8 + 4 * p + 1 + k)) (g 0) = bb_pk g p k := rfl
    have hpk := bb_pk_rg hw p0 p1 k0 (k := k) (by omega)
    simp (discharger := first | assumption | exact True.intro | exact not_false | (refine ab_gK ?_; with_unfolding_all rfl) | exact ab_rgI (by omega) (by omega) | omega) only [hk1, hk2, h7, h7e, ab_e124_0, ab_e124_1, ab_e124_2, ab_e124_5, ab_e124_6, ab_e124_7, ab_e124_8, ab_e124_9, ab_e124_13, ab_e124_14, ab_e124_17, ab_e124_20, ab_e124_21, ab_e124_22, ab_e124_25, ab_e124_28, ab_e124_29, ab_e124_32, ab_e124_34, ab_e124_35, ab_e124_36, ab_e124_39, ab_e124_42, ab_e124_43, ab_e124_46, ab_e124_49, ab_e124_50, ab_br_t, ab_br_f, ab_re_v (ab_zz _), ab_re_n (ab_zz _)]
    exact bb_l124 hw hk p0 p1 (k + 1) _ (by omega) (by omega) (by rw [bb_mx1 k0, ha])
termination_by (g (8 + 4 * p) - k).toNat
decreasing_by all_goals omega

theorem bb_y124 {K : ab_Kt} {D : Nat → Int → Int} {L : Nat → Int → Int64} {z : ab_Z} {c : Int} {g : Int → Int} (hw : bb_WS c g) (hk : bb_KS D L 19 g) {p : Int} (hp : ab_rg p) (hx : 0 ≤ p ∧ p < 2) (hh : g (8 + 4 * p) ≠ 0) : ab_cal K 124 [.ref 17, .int (ab_I p)] (ab_mk D L z) = some (.inl (some (.int (ab_I (bb_pm g p)))), (ab_mk D L z)) := by
  simp (discharger := first | assumption | exact True.intro | exact not_false | (refine ab_gK ?_; with_unfolding_all rfl) | exact ab_rgI (by omega) (by omega) | omega) only [ab_a124, bb_y201 hw hk hp hx hh, ab_e124_0, ab_e124_1, ab_e124_2, ab_e124_5, ab_e124_6, ab_e124_7, ab_e124_8, ab_e124_9, ab_e124_13, ab_e124_14, ab_e124_17, ab_e124_20, ab_e124_21, ab_e124_22, ab_e124_25, ab_e124_28, ab_e124_29, ab_e124_32, ab_e124_34, ab_e124_35, ab_e124_36, ab_e124_39, ab_e124_42, ab_e124_43, ab_e124_46, ab_e124_49, ab_e124_50, ab_br_t, ab_br_f, ab_re_v (ab_zz _), ab_re_n (ab_zz _)]
  exact bb_l124 hw hk hx.1 hx.2 0 0 (by omega) (hw.2.2.2.2.2.2.1 p hx.1 hx.2).1 rfl

theorem bb_l202 {K : ab_Kt} {D : Nat → Int → Int} {L : Nat → Int → Int64} {z : ab_Z} {c : Int} {g : Int → Int} (hw : bb_WS c g) (hk : bb_KS D L 19 g) {p m9 : Int} (p0 : 0 ≤ p) (p1 : p < 2) (m0 : 0 ≤ m9) (m1 : m9 ≤ 30) (k : Int) (k0 : 0 ≤ k) (k1 : k ≤ g (8 + 4 * p)) (ha : ∀ i, 0 ≤ i → i < k → bb_pk g p i ≤ m9) : ab_ev K 202 2 [some (.ref 17), some (.ref (ab_pI 19 p)), some (.int (ab_I m9)), some (.int (ab_I k))] [] (ab_mk D L z) = some (.inl (some (.int (ab_I (if bb_pm g p ≤ m9 then 1 else 0)))), (ab_mk D L z)) := by
  have hsp := ab_sp0
  have hps := ab_ps_pI hsp p0 p1
  have hgt := hw.2.2.2.2.2.2.1 p p0 p1
  have hk1 := (hk.2.1 p p0 p1).1
  have m := bb_WS_n hw
  rw [ab_e202_2]
  by_cases hx : g (8 + 4 * p) ≤ k
  · have h1 := (bb_mx_rg (f := bb_pk g p) hgt.1 m0 (fun i a d => ha i a (by omega))).2
    rw [if_pos (show bb_pm g p ≤ m9 from h1)]
    simp (discharger := first | assumption | exact True.intro | exact not_false | (refine ab_gK ?_; with_unfolding_all rfl) | exact ab_rgI (by omega) (by omega) | omega) only [hk1, ab_e202_0, ab_e202_1, ab_e202_3, ab_e202_4, ab_e202_7, ab_e202_10, ab_e202_11, ab_e202_14, ab_e202_17, ab_e202_18, ab_e202_21, ab_e202_22, ab_e202_23, ab_e202_24, ab_e202_27, ab_e202_28, ab_e202_31, ab_e202_32, ab_e202_33, ab_e202_36, ab_e202_39, ab_e202_40, ab_br_t, ab_br_f, ab_re_v (ab_zz _), ab_re_n (ab_zz _)]
  · have hk2 := (hk.2.1 p p0 p1).2 k k0 (by omega)
    have hbk9 := hw.2.2.2.2.2.2.2.1 p k p0 p1 k0 (by omega)
    have hbk := ab_bk_bI hsp hbk9.1.1 (e := g (8 + 4 * p + 1 + k)) (by omega)
    have h7 := (hk.2.2.2.1 _ hbk9.1.1 hbk9.1.2).2.1
    have h7e : bb_nd g (g (8 + 4 * p + 1 + k)) (g 0) = bb_pk g p k := rfl
    have hpk := bb_pk_rg hw p0 p1 k0 (k := k) (by omega)
    by_cases hy : bb_pk g p k ≤ m9
    · skip
      simp (discharger := first | assumption | exact True.intro | exact not_false | (refine ab_gK ?_; with_unfolding_all rfl) | exact ab_rgI (by omega) (by omega) | omega) only [hk1, hk2, h7, h7e, ab_e202_0, ab_e202_1, ab_e202_3, ab_e202_4, ab_e202_7, ab_e202_10, ab_e202_11, ab_e202_14, ab_e202_17, ab_e202_18, ab_e202_21, ab_e202_22, ab_e202_23, ab_e202_24, ab_e202_27, ab_e202_28, ab_e202_31, ab_e202_32, ab_e202_33, ab_e202_36, ab_e202_39, ab_e202_40, ab_br_t, ab_br_f, ab_re_v (ab_zz _), ab_re_n (ab_zz _)]
      exact bb_l202 hw hk p0 p1 m0 m1 (k + 1) (by omega) (by omega) (fun i a d => by
        by_cases hi : i = k
        · rw [hi]; exact hy
        · exact ha i a (by omega))
    · have h2 := bb_mx_ge (f := bb_pk g p) hgt.1 k k0 (by omega)
      rw [if_neg (show ¬ bb_pm g p ≤ m9 from fun x => hy (Int.le_trans h2 x))]
      simp (discharger := first | assumption | exact True.intro | exact not_false | (refine ab_gK ?_; with_unfolding_all rfl) | exact ab_rgI (by omega) (by omega) | omega) only [hk1, hk2, h7, h7e, ab_e202_0, ab_e202_1, ab_e202_3, ab_e202_4, ab_e202_7, ab_e202_10, ab_e202_11, ab_e202_14, ab_e202_17, ab_e202_18, ab_e202_21, ab_e202_22, ab_e202_23, ab_e202_24, ab_e202_27, ab_e202_28, ab_e202_31, ab_e202_32, ab_e202_33, ab_e202_36, ab_e202_39, ab_e202_40, ab_br_t, ab_br_f, ab_re_v (ab_zz _), ab_re_n (ab_zz _)]
termination_by (g (8 + 4 * p) - k).toNat
decreasing_by all_goals omega

theorem bb_y202 {K : ab_Kt} {D : Nat → Int → Int} {L : Nat → Int → Int64} {z : ab_Z} {c : Int} {g : Int → Int} (hw : bb_WS c g) (hk : bb_KS D L 19 g) {p m9 : Int} (p0 : 0 ≤ p) (p1 : p < 2) (m0 : 0 ≤ m9) (m1 : m9 ≤ 30) : ab_cal K 202 [.ref 17, .ref (ab_pI 19 p), .int (ab_I m9)] (ab_mk D L z) = some (.inl (some (.int (ab_I (if bb_pm g p ≤ m9 then 1 else 0)))), (ab_mk D L z)) := by
  have hps := ab_ps_pI ab_sp0 p0 p1
  simp (discharger := first | assumption | exact True.intro | exact not_false | (refine ab_gK ?_; with_unfolding_all rfl) | exact ab_rgI (by omega) (by omega) | omega) only [ab_a202, ab_e202_0, ab_e202_1, ab_e202_3, ab_e202_4, ab_e202_7, ab_e202_10, ab_e202_11, ab_e202_14, ab_e202_17, ab_e202_18, ab_e202_21, ab_e202_22, ab_e202_23, ab_e202_24, ab_e202_27, ab_e202_28, ab_e202_31, ab_e202_32, ab_e202_33, ab_e202_36, ab_e202_39, ab_e202_40, ab_br_t, ab_br_f, ab_re_v (ab_zz _), ab_re_n (ab_zz _)]
  exact bb_l202 hw hk p0 p1 m0 m1 0 (by omega) (hw.2.2.2.2.2.2.1 p p0 p1).1 (fun i a d => by omega)

theorem bb_l121 {K : ab_Kt} {D : Nat → Int → Int} {L : Nat → Int → Int64} {z : ab_Z} {c : Int} {g : Int → Int} (hw : bb_WS c g) (hk : bb_KS D L 19 g) {p : Int} (p0 : 0 ≤ p) (p1 : p < 2) (m9 : Int) (m0 : 0 ≤ m9) (m1 : m9 ≤ bb_pm g p) : ab_ev K 121 8 [some (.ref 17), some (.int (ab_I p)), some (.ref (ab_pI 19 p)), some (.int (ab_I m9))] [] (ab_mk D L z) = some (.inl (some (.int (ab_I (bb_pm g p)))), (ab_mk D L z)) := by
  have hgt := hw.2.2.2.2.2.2.1 p p0 p1
  have hmx : 0 ≤ bb_pm g p ∧ bb_pm g p ≤ 30 := bb_mxk_rg hw p0 p1 hgt.1 (Int.le_refl _)
  rw [ab_e121_8]
  by_cases hx : bb_pm g p ≤ m9
  · by_cases h30 : 30 ≤ m9
    · skip
      simp (discharger := first | assumption | exact True.intro | exact not_false | (refine ab_gK ?_; with_unfolding_all rfl) | exact ab_rgI (by omega) (by omega) | omega) only [ab_e121_0, ab_e121_1, ab_e121_2, ab_e121_5, ab_e121_6, ab_e121_7, ab_e121_9, ab_e121_11, ab_e121_14, ab_e121_15, ab_e121_16, ab_e121_17, ab_e121_20, ab_e121_23, ab_e121_26, ab_e121_29, ab_e121_30, ab_br_t, ab_br_f, ab_re_v (ab_zz _), ab_re_n (ab_zz _)]
      exact ab_fin (by omega) rfl
    · skip
      simp (discharger := first | assumption | exact True.intro | exact not_false | (refine ab_gK ?_; with_unfolding_all rfl) | exact ab_rgI (by omega) (by omega) | omega) only [bb_y202 hw hk p0 p1, if_pos hx, ab_e121_0, ab_e121_1, ab_e121_2, ab_e121_5, ab_e121_6, ab_e121_7, ab_e121_9, ab_e121_11, ab_e121_14, ab_e121_15, ab_e121_16, ab_e121_17, ab_e121_20, ab_e121_23, ab_e121_26, ab_e121_29, ab_e121_30, ab_br_t, ab_br_f, ab_re_v (ab_zz _), ab_re_n (ab_zz _)]
      exact ab_fin (by omega) rfl
  · skip
    simp (discharger := first | assumption | exact True.intro | exact not_false | (refine ab_gK ?_; with_unfolding_all rfl) | exact ab_rgI (by omega) (by omega) | omega) only [bb_y202 hw hk p0 p1, if_neg hx, ab_e121_0, ab_e121_1, ab_e121_2, ab_e121_5, ab_e121_6, ab_e121_7, ab_e121_9, ab_e121_11, ab_e121_14, ab_e121_15, ab_e121_16, ab_e121_17, ab_e121_20, ab_e121_23, ab_e121_26, ab_e121_29, ab_e121_30, ab_br_t, ab_br_f, ab_re_v (ab_zz _), ab_re_n (ab_zz _)]
    exact bb_l121 hw hk p0 p1 (m9 + 1) (by omega) (by omega)
termination_by (bb_pm g p - m9).toNat
decreasing_by all_goals omega

theorem bb_y121 {K : ab_Kt} {D : Nat → Int → Int} {L : Nat → Int → Int64} {z : ab_Z} {c : Int} {g : Int → Int} (hw : bb_WS c g) (hk : bb_KS D L 19 g) {p : Int} (hp : ab_rg p) (hx : 0 ≤ p ∧ p < 2) (hh : g (8 + 4 * p) ≠ 0) : ab_cal K 121 [.ref 17, .int (ab_I p)] (ab_mk D L z) = some (.inl (some (.int (ab_I (bb_pm g p)))), (ab_mk D L z)) := by
  have hgt := hw.2.2.2.2.2.2.1 p hx.1 hx.2
  have hmx : 0 ≤ bb_pm g p ∧ bb_pm g p ≤ 30 := bb_mxk_rg hw hx.1 hx.2 hgt.1 (Int.le_refl _)
  simp (discharger := first | assumption | exact True.intro | exact not_false | (refine ab_gK ?_; with_unfolding_all rfl) | exact ab_rgI (by omega) (by omega) | omega) only [ab_a121, bb_y201 hw hk hp hx hh, ab_e121_0, ab_e121_1, ab_e121_2, ab_e121_5, ab_e121_6, ab_e121_7, ab_e121_9, ab_e121_11, ab_e121_14, ab_e121_15, ab_e121_16, ab_e121_17, ab_e121_20, ab_e121_23, ab_e121_26, ab_e121_29, ab_e121_30, ab_br_t, ab_br_f, ab_re_v (ab_zz _), ab_re_n (ab_zz _)]
  exact bb_l121 hw hk hx.1 hx.2 0 (by omega) hmx.1

theorem bb_l33 {K : ab_Kt} {D : Nat → Int → Int} {L : Nat → Int → Int64} {z : ab_Z} {c : Int} (hw : bb_WS c (D 501)) {p : Int} (p0 : 0 ≤ p) (p1 : p < 2) (k a : Int) (k0 : 0 ≤ k) (k1 : k ≤ D 501 (8 + 4 * p)) (ha : a = bb_mx (bb_pk (D 501) p) k) : ab_ev K 33 37 [some (.ref 500), some (.int (ab_I p)), some (.int (ab_I a)), some (.int (ab_I k))] [] (ab_mk D L z) = some (.inl (some (.int (ab_I (bb_pm (D 501) p)))), (ab_mk D L z)) := by
  have hgt := hw.2.2.2.2.2.2.1 p p0 p1
  have m := bb_WS_n hw
  have hm0 : 0 ≤ D 501 0 ∧ D 501 0 ≤ 100000000 := by omega
  have hmx := bb_mxk_rg hw p0 p1 k0 k1
  rw [ab_e33_37]
  by_cases hx : D 501 (8 + 4 * p) ≤ k
  · simp (discharger := first | assumption | exact True.intro | exact not_false | (refine ab_gK ?_; with_unfolding_all rfl) | exact ab_rgI (by omega) (by omega) | omega) only [ab_y100, ab_e33_0, ab_e33_1, ab_e33_2, ab_e33_5, ab_e33_8, ab_e33_9, ab_e33_12, ab_e33_13, ab_e33_14, ab_e33_17, ab_e33_20, ab_e33_21, ab_e33_24, ab_e33_25, ab_e33_28, ab_e33_31, ab_e33_32, ab_e33_33, ab_e33_34, ab_e33_35, ab_e33_36, ab_e33_38, ab_e33_39, ab_e33_40, ab_e33_43, ab_e33_46, ab_e33_47, ab_e33_48, ab_e33_49, ab_e33_50, ab_e33_51, ab_e33_54, ab_e33_57, ab_e33_60, ab_e33_61, ab_e33_64, ab_e33_67, ab_e33_68, ab_br_t, ab_br_f, ab_re_v (ab_zz _), ab_re_n (ab_zz _)]
    exact ab_fin (by rw [ha, show k = D 501 (8 + 4 * p) by omega]; rfl) rfl
  · have hb := hw.2.2.2.2.2.2.2.1 p k p0 p1 k0 (by omega)
    have hb6 : D 501 (8 + 4 * p + 1 + k) < 6 := by omega
    have hI := bb_WS_IR hw hb.1.1 hb.1.2
    have hpk := bb_pk_rg hw p0 p1 k0 (k := k) (by omega)
    have hpe : ab_rneed (D 501) (D 501 (8 + 4 * p + 1 + k)) = bb_pk (D 501) p k := rfl
    simp (discharger := first | assumption | exact True.intro | exact not_false | (refine ab_gK ?_; with_unfolding_all rfl) | exact ab_rgI (by omega) (by omega) | omega) only [ab_y100, ab_y123 p0 p1, ab_y125 hb.1.1 hb6 hI hm0, hpe, ab_y126, ab_e33_0, ab_e33_1, ab_e33_2, ab_e33_5, ab_e33_8, ab_e33_9, ab_e33_12, ab_e33_13, ab_e33_14, ab_e33_17, ab_e33_20, ab_e33_21, ab_e33_24, ab_e33_25, ab_e33_28, ab_e33_31, ab_e33_32, ab_e33_33, ab_e33_34, ab_e33_35, ab_e33_36, ab_e33_38, ab_e33_39, ab_e33_40, ab_e33_43, ab_e33_46, ab_e33_47, ab_e33_48, ab_e33_49, ab_e33_50, ab_e33_51, ab_e33_54, ab_e33_57, ab_e33_60, ab_e33_61, ab_e33_64, ab_e33_67, ab_e33_68, ab_br_t, ab_br_f, ab_re_v (ab_zz _), ab_re_n (ab_zz _)]
    exact bb_l33 hw p0 p1 (k + 1) _ (by omega) (by omega) (by rw [bb_mx1 k0, ha])
termination_by (D 501 (8 + 4 * p) - k).toNat
decreasing_by all_goals omega

theorem bb_l31i {K : ab_Kt} {D : Nat → Int → Int} {L : Nat → Int → Int64} {z : ab_Z} {c : Int} (hw : bb_WS c (D 501)) {p m9 : Int} (p0 : 0 ≤ p) (p1 : p < 2) (m0 : 0 ≤ m9) (m1 : m9 ≤ 30) (k f : Int) (k0 : 0 ≤ k) (k1 : k ≤ D 501 (8 + 4 * p)) (hf : f = (if bb_mx (bb_pk (D 501) p) k ≤ m9 then 1 else 0)) : ab_ev K 31 46 [some (.ref 500), some (.int (ab_I p)), some (.int (ab_I m9)), some (.int (ab_I f)), some (.int (ab_I k))] [] (ab_mk D L z) = ab_ev K 31 94 [some (.ref 500), some (.int (ab_I p)), some (.int (ab_I m9)), some (.int (ab_I (if bb_pm (D 501) p ≤ m9 then 1 else 0))), some (.int (ab_I (D 501 (8 + 4 * p))))] [] (ab_mk D L z) := by
  have hgt := hw.2.2.2.2.2.2.1 p p0 p1
  have m := bb_WS_n hw
  have hm0 : 0 ≤ D 501 0 ∧ D 501 0 ≤ 100000000 := by omega
  have hmx := bb_mxk_rg hw p0 p1 k0 k1
  rw [ab_e31_46]
  by_cases hx : D 501 (8 + 4 * p) ≤ k
  · simp (discharger := first | assumption | exact True.intro | exact not_false | (refine ab_gK ?_; with_unfolding_all rfl) | exact ab_rgI (by omega) (by omega) | omega) only [ab_y100, ab_e31_0, ab_e31_1, ab_e31_2, ab_e31_5, ab_e31_8, ab_e31_9, ab_e31_12, ab_e31_13, ab_e31_14, ab_e31_17, ab_e31_20, ab_e31_21, ab_e31_24, ab_e31_25, ab_e31_28, ab_e31_31, ab_e31_32, ab_e31_33, ab_e31_34, ab_e31_35, ab_e31_36, ab_e31_37, ab_e31_38, ab_e31_41, ab_e31_42, ab_e31_43, ab_e31_44, ab_e31_48, ab_e31_49, ab_e31_50, ab_e31_53, ab_e31_56, ab_e31_57, ab_e31_58, ab_e31_59, ab_e31_60, ab_e31_62, ab_e31_65, ab_e31_67, ab_e31_70, ab_e31_71, ab_e31_74, ab_e31_75, ab_e31_76, ab_e31_77, ab_e31_78, ab_e31_81, ab_e31_82, ab_e31_85, bb_e31_86, ab_e31_87, ab_e31_88, ab_e31_91, ab_e31_95, ab_e31_96, ab_e31_99, ab_e31_100, ab_e31_103, ab_e31_104, ab_e31_105, ab_e31_106, ab_e31_109, ab_e31_110, ab_br_t, ab_br_f, ab_re_v (ab_zz _), ab_re_n (ab_zz _)]
    rw [hf, show k = D 501 (8 + 4 * p) by omega]; rfl
  · have hb := hw.2.2.2.2.2.2.2.1 p k p0 p1 k0 (by omega)
    have hb6 : D 501 (8 + 4 * p + 1 + k) < 6 := by omega
    have hpk := bb_pk_f hw p0 p1 k0 (k := k) (by omega)
    have hf1 : (if bb_mx (bb_pk (D 501) p) (k + 1) ≤ m9 then 1 else 0) = if bb_mx (bb_pk (D 501) p) k ≤ m9 ∧ bb_R (D 501) (D 501 (8 + 4 * p + 1 + k)) 6 ≤ D 501 0 + m9 then (1 : Int) else 0 := by
      rw [bb_mx1 k0]
      by_cases h9 : bb_mx (bb_pk (D 501) p) k ≤ m9 ∧ bb_R (D 501) (D 501 (8 + 4 * p + 1 + k)) 6 ≤ D 501 0 + m9
      · rw [if_pos h9, if_pos (by omega)]
      · rw [if_neg h9, if_neg (by omega)]
    have hf01 : f = 0 ∨ f = 1 := by rw [hf]; by_cases h8 : bb_mx (bb_pk (D 501) p) k ≤ m9 <;> simp [h8]
    have next : ∀ f9 : Int, f9 = (if bb_mx (bb_pk (D 501) p) k ≤ m9 ∧ bb_R (D 501) (D 501 (8 + 4 * p + 1 + k)) 6 ≤ D 501 0 + m9 then 1 else 0) → ab_ev K 31 46 [some (.ref 500), some (.int (ab_I p)), some (.int (ab_I m9)), some (.int (ab_I f9)), some (.int (ab_I (k + 1)))] [] (ab_mk D L z) = ab_ev K 31 94 [some (.ref 500), some (.int (ab_I p)), some (.int (ab_I m9)), some (.int (ab_I (if bb_pm (D 501) p ≤ m9 then 1 else 0))), some (.int (ab_I (D 501 (8 + 4 * p))))] [] (ab_mk D L z) := fun f9 h9 => bb_l31i hw p0 p1 m0 m1 (k + 1) f9 (by omega) (by omega) (by rw [h9, hf1])
    by_cases hy : bb_R (D 501) (D 501 (8 + 4 * p + 1 + k)) 6 ≤ D 501 0 + m9
    · skip
      simp (discharger := first | assumption | exact True.intro | exact not_false | (refine ab_gK ?_; with_unfolding_all rfl) | exact ab_rgI (by omega) (by omega) | omega) only [ab_y100, ab_y123 p0 p1, ab_y110, ab_e31_0, ab_e31_1, ab_e31_2, ab_e31_5, ab_e31_8, ab_e31_9, ab_e31_12, ab_e31_13, ab_e31_14, ab_e31_17, ab_e31_20, ab_e31_21, ab_e31_24, ab_e31_25, ab_e31_28, ab_e31_31, ab_e31_32, ab_e31_33, ab_e31_34, ab_e31_35, ab_e31_36, ab_e31_37, ab_e31_38, ab_e31_41, ab_e31_42, ab_e31_43, ab_e31_44, ab_e31_48, ab_e31_49, ab_e31_50, ab_e31_53, ab_e31_56, ab_e31_57, ab_e31_58, ab_e31_59, ab_e31_60, ab_e31_62, ab_e31_65, ab_e31_67, ab_e31_70, ab_e31_71, ab_e31_74, ab_e31_75, ab_e31_76, ab_e31_77, ab_e31_78, ab_e31_81, ab_e31_82, ab_e31_85, bb_e31_86, ab_e31_87, ab_e31_88, ab_e31_91, ab_e31_95, ab_e31_96, ab_e31_99, ab_e31_100, ab_e31_103, ab_e31_104, ab_e31_105, ab_e31_106, ab_e31_109, ab_e31_110, ab_br_t, ab_br_f, ab_re_v (ab_zz _), ab_re_n (ab_zz _)]
      refine next _ ?_
      rw [hf]
      by_cases h8 : bb_mx (bb_pk (D 501) p) k ≤ m9 <;> simp [h8, hy]
    · skip
      simp (discharger := first | assumption | exact True.intro | exact not_false | (refine ab_gK ?_; with_unfolding_all rfl) | exact ab_rgI (by omega) (by omega) | omega) only [ab_y100, ab_y123 p0 p1, ab_y110, ab_e31_0, ab_e31_1, ab_e31_2, ab_e31_5, ab_e31_8, ab_e31_9, ab_e31_12, ab_e31_13, ab_e31_14, ab_e31_17, ab_e31_20, ab_e31_21, ab_e31_24, ab_e31_25, ab_e31_28, ab_e31_31, ab_e31_32, ab_e31_33, ab_e31_34, ab_e31_35, ab_e31_36, ab_e31_37, ab_e31_38, ab_e31_41, ab_e31_42, ab_e31_43, ab_e31_44, ab_e31_48, ab_e31_49, ab_e31_50, ab_e31_53, ab_e31_56, ab_e31_57, ab_e31_58, ab_e31_59, ab_e31_60, ab_e31_62, ab_e31_65, ab_e31_67, ab_e31_70, ab_e31_71, ab_e31_74, ab_e31_75, ab_e31_76, ab_e31_77, ab_e31_78, ab_e31_81, ab_e31_82, ab_e31_85, bb_e31_86, ab_e31_87, ab_e31_88, ab_e31_91, ab_e31_95, ab_e31_96, ab_e31_99, ab_e31_100, ab_e31_103, ab_e31_104, ab_e31_105, ab_e31_106, ab_e31_109, ab_e31_110, ab_br_t, ab_br_f, ab_re_v (ab_zz _), ab_re_n (ab_zz _)]
      refine next _ ?_
      rw [hf]
      by_cases h8 : bb_mx (bb_pk (D 501) p) k ≤ m9 <;> simp [h8, hy]
termination_by (D 501 (8 + 4 * p) - k).toNat
decreasing_by all_goals omega

theorem bb_l31 {K : ab_Kt} {D : Nat → Int → Int} {L : Nat → Int → Int64} {z : ab_Z} {c : Int} (hw : bb_WS c (D 501)) {p : Int} (p0 : 0 ≤ p) (p1 : p < 2) (m9 : Int) (x4 : Option Value) (m0 : 0 ≤ m9) (m1 : m9 ≤ bb_pm (D 501) p) : ab_ev K 31 37 [some (.ref 500), some (.int (ab_I p)), some (.int (ab_I m9)), some (.int (ab_I 0)), x4] [] (ab_mk D L z) = some (.inl (some (.int (ab_I (bb_pm (D 501) p)))), (ab_mk D L z)) := by
  have hgt := hw.2.2.2.2.2.2.1 p p0 p1
  have hmx : 0 ≤ bb_pm (D 501) p ∧ bb_pm (D 501) p ≤ 30 := bb_mxk_rg hw p0 p1 hgt.1 (Int.le_refl _)
  rw [ab_e31_37]
  have hin := bb_l31i (K := K) (D := D) (L := L) (z := z) hw p0 p1 m0 (by omega) 0 1 (by omega) hgt.1 (by rw [bb_mx0, if_pos m0])
  by_cases hx : bb_pm (D 501) p ≤ m9
  · rw [if_pos hx] at hin
    simp (discharger := first | assumption | exact True.intro | exact not_false | (refine ab_gK ?_; with_unfolding_all rfl) | exact ab_rgI (by omega) (by omega) | omega) only [hin, ab_e31_0, ab_e31_1, ab_e31_2, ab_e31_5, ab_e31_8, ab_e31_9, ab_e31_12, ab_e31_13, ab_e31_14, ab_e31_17, ab_e31_20, ab_e31_21, ab_e31_24, ab_e31_25, ab_e31_28, ab_e31_31, ab_e31_32, ab_e31_33, ab_e31_34, ab_e31_35, ab_e31_36, ab_e31_38, ab_e31_41, ab_e31_42, ab_e31_43, ab_e31_44, ab_e31_48, ab_e31_49, ab_e31_50, ab_e31_53, ab_e31_56, ab_e31_57, ab_e31_58, ab_e31_59, ab_e31_60, ab_e31_62, ab_e31_65, ab_e31_67, ab_e31_70, ab_e31_71, ab_e31_74, ab_e31_75, ab_e31_76, ab_e31_77, ab_e31_78, ab_e31_81, ab_e31_82, ab_e31_85, bb_e31_86, ab_e31_87, ab_e31_88, ab_e31_91, ab_e31_94, ab_e31_95, ab_e31_96, ab_e31_99, ab_e31_100, ab_e31_103, ab_e31_104, ab_e31_105, ab_e31_106, ab_e31_109, ab_e31_110, ab_br_t, ab_br_f, ab_re_v (ab_zz _), ab_re_n (ab_zz _)]
    rw [ab_e31_37]
    simp (discharger := first | assumption | exact True.intro | exact not_false | (refine ab_gK ?_; with_unfolding_all rfl) | exact ab_rgI (by omega) (by omega) | omega) only [ab_e31_0, ab_e31_1, ab_e31_2, ab_e31_5, ab_e31_8, ab_e31_9, ab_e31_12, ab_e31_13, ab_e31_14, ab_e31_17, ab_e31_20, ab_e31_21, ab_e31_24, ab_e31_25, ab_e31_28, ab_e31_31, ab_e31_32, ab_e31_33, ab_e31_34, ab_e31_35, ab_e31_36, ab_e31_38, ab_e31_41, ab_e31_42, ab_e31_43, ab_e31_44, ab_e31_48, ab_e31_49, ab_e31_50, ab_e31_53, ab_e31_56, ab_e31_57, ab_e31_58, ab_e31_59, ab_e31_60, ab_e31_62, ab_e31_65, ab_e31_67, ab_e31_70, ab_e31_71, ab_e31_74, ab_e31_75, ab_e31_76, ab_e31_77, ab_e31_78, ab_e31_81, ab_e31_82, ab_e31_85, bb_e31_86, ab_e31_87, ab_e31_88, ab_e31_91, ab_e31_94, ab_e31_95, ab_e31_96, ab_e31_99, ab_e31_100, ab_e31_103, ab_e31_104, ab_e31_105, ab_e31_106, ab_e31_109, ab_e31_110, ab_br_t, ab_br_f, ab_re_v (ab_zz _), ab_re_n (ab_zz _)]
    exact ab_fin (by omega) rfl
  · rw [if_neg hx] at hin
    simp (discharger := first | assumption | exact True.intro | exact not_false | (refine ab_gK ?_; with_unfolding_all rfl) | exact ab_rgI (by omega) (by omega) | omega) only [hin, ab_e31_0, ab_e31_1, ab_e31_2, ab_e31_5, ab_e31_8, ab_e31_9, ab_e31_12, ab_e31_13, ab_e31_14, ab_e31_17, ab_e31_20, ab_e31_21, ab_e31_24, ab_e31_25, ab_e31_28, ab_e31_31, ab_e31_32, ab_e31_33, ab_e31_34, ab_e31_35, ab_e31_36, ab_e31_38, ab_e31_41, ab_e31_42, ab_e31_43, ab_e31_44, ab_e31_48, ab_e31_49, ab_e31_50, ab_e31_53, ab_e31_56, ab_e31_57, ab_e31_58, ab_e31_59, ab_e31_60, ab_e31_62, ab_e31_65, ab_e31_67, ab_e31_70, ab_e31_71, ab_e31_74, ab_e31_75, ab_e31_76, ab_e31_77, ab_e31_78, ab_e31_81, ab_e31_82, ab_e31_85, bb_e31_86, ab_e31_87, ab_e31_88, ab_e31_91, ab_e31_94, ab_e31_95, ab_e31_96, ab_e31_99, ab_e31_100, ab_e31_103, ab_e31_104, ab_e31_105, ab_e31_106, ab_e31_109, ab_e31_110, ab_br_t, ab_br_f, ab_re_v (ab_zz _), ab_re_n (ab_zz _)]
    exact bb_l31 hw p0 p1 (m9 + 1) _ (by omega) (by omega)
termination_by (bb_pm (D 501) p - m9).toNat
decreasing_by all_goals omega

theorem bb_op32 {K : ab_Kt} {D : Nat → Int → Int} {L : Nat → Int → Int64} {z : ab_Z} {n : Int} (hn : n < 512) (h : bb_INV n D L z) {p : Int} (hp9r : ab_rg p) : bb_OP K n D L z 32 [.ref 17, .int (ab_I p), .ref 508] 33 [.ref 500, .int (ab_I p)] := by
  have hI := h
  obtain ⟨n1, ⟨hw, w2, w3⟩, hS9, hR9, h69, hT9, hL9, -⟩ := hI
  have n9 : 0 ≤ n ∧ n < 512 := ⟨n1.1, hn⟩
  have cm := bb_cc_mono n9
  have hsp := ab_sp0
  have hk := w2.1
  have m := bb_WS_n hw
  obtain ⟨⟨q2, q3, q4, q5, q6, q7, q8, q9⟩, kp, ka, kb, kn⟩ := id hk
  have hwE : bb_WS (bb_cc n) (bb_E D 501) := by rw [bb_E_501]; exact hw
  by_cases hx : 0 ≤ p ∧ p < 2
  · have hgt := hw.2.2.2.2.2.2.1 p hx.1 hx.2
    have hgE : 0 ≤ bb_E D 501 (8 + 4 * p) := by rw [bb_E_501]; exact hgt.1
    have hx1 : 0 ≤ p ∧ p ≤ 1 := by omega
    have hmx : 0 ≤ bb_pm (D 501) p ∧ bb_pm (D 501) p ≤ 30 := bb_mxk_rg hw hx.1 hx.2 hgt.1 (Int.le_refl _)
    have hmE : 0 ≤ bb_pm (bb_E D 501) p := by rw [bb_E_501]; exact hmx.1
    have e1 : D 501 (8 + 4 * p) = 0 → ab_cal K 124 [.ref 17, .int (ab_I p)] (ab_mk D L z) = some (.inr "java/util/NoSuchElementException", ab_mk D L (ab_zx z)) := fun hh => by
      simp (discharger := first | assumption | exact True.intro | exact not_false | (refine ab_gK ?_; with_unfolding_all rfl) | exact ab_rgI (by omega) (by omega) | omega) only [ab_a124, bb_y201e hw hk hp9r hx hh, ab_re_t (M := 124) (pc := 2) (E := "java/util/NoSuchElementException") (by rfl) (ab_zzx _), ab_e124_0, ab_e124_1, ab_e124_2, ab_e124_5, ab_e124_6, ab_e124_7, ab_e124_8, ab_e124_9, ab_e124_11, ab_e124_13, ab_e124_14, ab_e124_17, ab_e124_20, ab_e124_21, ab_e124_22, ab_e124_25, ab_e124_28, ab_e124_29, ab_e124_32, ab_e124_34, ab_e124_35, ab_e124_36, ab_e124_39, ab_e124_42, ab_e124_43, ab_e124_46, ab_e124_49, ab_e124_50, ab_br_t, ab_br_f, ab_re_v (ab_zz _), ab_re_n (ab_zz _)]
    by_cases hh : D 501 (8 + 4 * p) = 0
    · skip
      refine ⟨D, L, ab_zc (ab_zx z), ab_u D 500 7 2, 2, 0, ?_, ?_, by omega, ab_u_eq, fun x => absurd x (by omega), bb_INV_q hn h (fun i _ e => ab_u_row e) (fun k e => ab_u_ne (.inr e)) (fun i _ => rfl) (.inr rfl), Nat.le_succ _, Nat.le_add_right _ 6⟩
      · simp (discharger := first | assumption | exact True.intro | exact not_false | (refine ab_gK ?_; with_unfolding_all rfl) | exact ab_rgI (by omega) (by omega) | omega) only [ab_a32, e1 hh, ab_re_h (M := 32) (pc := 4) (E := "java/util/NoSuchElementException") (ph := 15) (by rfl) (ab_zzx _), ab_e32_0, ab_e32_1, ab_e32_2, ab_e32_3, ab_e32_4, ab_e32_7, ab_e32_8, ab_e32_9, ab_e32_12, ab_e32_13, ab_e32_14, ab_e32_15, ab_e32_16, ab_e32_17, ab_e32_18, ab_e32_19, ab_br_t, ab_br_f, ab_re_v (ab_zz _), ab_re_n (ab_zz _)]
      · simp (discharger := first | assumption | exact True.intro | exact not_false | (refine ab_gK ?_; with_unfolding_all rfl) | exact ab_rgI (by omega) (by omega) | omega) only [ab_a33, ab_y122, if_pos hx1, ab_y100 hx.1 hx.2, hh, bb_y92_2, ab_e33_0, ab_e33_1, ab_e33_2, ab_e33_5, ab_e33_8, ab_e33_9, ab_e33_12, ab_e33_13, ab_e33_14, ab_e33_17, ab_e33_20, ab_e33_21, ab_e33_24, ab_e33_25, ab_e33_28, ab_e33_31, ab_e33_32, ab_e33_33, ab_e33_34, ab_e33_35, ab_e33_36, ab_e33_37, ab_e33_38, ab_e33_39, ab_e33_40, ab_e33_43, ab_e33_46, ab_e33_47, ab_e33_48, ab_e33_49, ab_e33_50, ab_e33_51, ab_e33_54, ab_e33_57, ab_e33_60, ab_e33_61, ab_e33_64, ab_e33_67, ab_e33_68, ab_br_t, ab_br_f, ab_re_v (ab_zz _), ab_re_n (ab_zz _)]
    · skip
      have lm := fun (L9 : Nat → Int → Int64) (z9 : ab_Z) => bb_l33 (K := K) (D := bb_E D) (L := L9) (z := z9) hwE hx.1 hx.2 0 0 (by omega) hgE rfl
      simp only [bb_E_501] at lm
      refine ⟨D, ab_u L 508 0 (ab_I (bb_pm (D 501) p)).toInt64, z, bb_E D, 0, bb_pm (D 501) p, ?_, ?_, by omega, ab_u_eq, fun _ => ab_u_eq, bb_INV_q hn h (fun i _ e => ab_u_row e) (fun k e => ab_u_ne (.inr e)) (fun i e => ab_u_row e) (.inl rfl), Nat.le_refl _, Nat.le_refl _⟩
      · simp (discharger := first | assumption | exact True.intro | exact not_false | (refine ab_gK ?_; with_unfolding_all rfl) | exact ab_rgI (by omega) (by omega) | omega) only [ab_a32, bb_y124 hw hk hp9r hx hh, ab_e32_0, ab_e32_1, ab_e32_2, ab_e32_3, ab_e32_4, ab_e32_7, ab_e32_8, ab_e32_9, ab_e32_12, ab_e32_13, ab_e32_14, ab_e32_15, ab_e32_16, ab_e32_17, ab_e32_18, ab_e32_19, ab_br_t, ab_br_f, ab_re_v (ab_zz _), ab_re_n (ab_zz _)]
      · simp (discharger := first | assumption | exact True.intro | exact not_false | (refine ab_gK ?_; with_unfolding_all rfl) | exact ab_rgI (by omega) (by omega) | omega) only [ab_a33, ab_y122, if_pos hx1, ab_y100 hx.1 hx.2, bb_y92_0, lm, bb_E_501, ab_e33_0, ab_e33_1, ab_e33_2, ab_e33_5, ab_e33_8, ab_e33_9, ab_e33_12, ab_e33_13, ab_e33_14, ab_e33_17, ab_e33_20, ab_e33_21, ab_e33_24, ab_e33_25, ab_e33_28, ab_e33_31, ab_e33_32, ab_e33_33, ab_e33_34, ab_e33_35, ab_e33_36, ab_e33_38, ab_e33_39, ab_e33_40, ab_e33_43, ab_e33_46, ab_e33_47, ab_e33_48, ab_e33_49, ab_e33_50, ab_e33_51, ab_e33_54, ab_e33_57, ab_e33_60, ab_e33_61, ab_e33_64, ab_e33_67, ab_e33_68, ab_br_t, ab_br_f, ab_re_v (ab_zz _), ab_re_n (ab_zz _)]
  · have hx1 : ¬ (0 ≤ p ∧ p ≤ 1) := by omega
    skip
    refine ⟨D, L, ab_zc (ab_zx z), ab_u D 500 7 1, 1, 0, ?_, ?_, by omega, ab_u_eq, fun x => absurd x (by omega), bb_INV_q hn h (fun i _ e => ab_u_row e) (fun k e => ab_u_ne (.inr e)) (fun i _ => rfl) (.inr rfl), Nat.le_succ _, Nat.le_add_right _ 6⟩
    · simp (discharger := first | assumption | exact True.intro | exact not_false | (refine ab_gK ?_; with_unfolding_all rfl) | exact ab_rgI (by omega) (by omega) | omega) only [ab_a32, ab_a124, bb_y201t hp9r hx, ab_re_t (M := 124) (pc := 2) (E := "java/lang/IndexOutOfBoundsException") (by rfl) (ab_zzx _), ab_re_h (M := 32) (pc := 4) (E := "java/lang/IndexOutOfBoundsException") (ph := 12) (by rfl) (ab_zzx _), ab_e32_0, ab_e32_1, ab_e32_2, ab_e32_3, ab_e32_4, ab_e32_7, ab_e32_8, ab_e32_9, ab_e32_12, ab_e32_13, ab_e32_14, ab_e32_15, ab_e32_16, ab_e32_17, ab_e32_18, ab_e32_19, ab_e124_0, ab_e124_1, ab_e124_2, ab_e124_5, ab_e124_6, ab_e124_7, ab_e124_8, ab_e124_9, ab_e124_11, ab_e124_13, ab_e124_14, ab_e124_17, ab_e124_20, ab_e124_21, ab_e124_22, ab_e124_25, ab_e124_28, ab_e124_29, ab_e124_32, ab_e124_34, ab_e124_35, ab_e124_36, ab_e124_39, ab_e124_42, ab_e124_43, ab_e124_46, ab_e124_49, ab_e124_50, ab_br_t, ab_br_f, ab_re_v (ab_zz _), ab_re_n (ab_zz _)]
    · simp (discharger := first | assumption | exact True.intro | exact not_false | (refine ab_gK ?_; with_unfolding_all rfl) | exact ab_rgI (by omega) (by omega) | omega) only [ab_a33, ab_y122, if_neg hx1, bb_y92_1, ab_e33_0, ab_e33_1, ab_e33_2, ab_e33_5, ab_e33_8, ab_e33_9, ab_e33_12, ab_e33_13, ab_e33_14, ab_e33_17, ab_e33_20, ab_e33_21, ab_e33_24, ab_e33_25, ab_e33_28, ab_e33_31, ab_e33_32, ab_e33_33, ab_e33_34, ab_e33_35, ab_e33_36, ab_e33_37, ab_e33_38, ab_e33_39, ab_e33_40, ab_e33_43, ab_e33_46, ab_e33_47, ab_e33_48, ab_e33_49, ab_e33_50, ab_e33_51, ab_e33_54, ab_e33_57, ab_e33_60, ab_e33_61, ab_e33_64, ab_e33_67, ab_e33_68, ab_br_t, ab_br_f, ab_re_v (ab_zz _), ab_re_n (ab_zz _)]

theorem bb_op30 {K : ab_Kt} {D : Nat → Int → Int} {L : Nat → Int → Int64} {z : ab_Z} {n : Int} (hn : n < 512) (h : bb_INV n D L z) {p : Int} (hp9r : ab_rg p) : bb_OP K n D L z 30 [.ref 17, .int (ab_I p), .ref 508] 31 [.ref 500, .int (ab_I p)] := by
  have hI := h
  obtain ⟨n1, ⟨hw, w2, w3⟩, hS9, hR9, h69, hT9, hL9, -⟩ := hI
  have n9 : 0 ≤ n ∧ n < 512 := ⟨n1.1, hn⟩
  have cm := bb_cc_mono n9
  have hsp := ab_sp0
  have hk := w2.1
  have m := bb_WS_n hw
  obtain ⟨⟨q2, q3, q4, q5, q6, q7, q8, q9⟩, kp, ka, kb, kn⟩ := id hk
  have hwE : bb_WS (bb_cc n) (bb_E D 501) := by rw [bb_E_501]; exact hw
  by_cases hx : 0 ≤ p ∧ p < 2
  · have hgt := hw.2.2.2.2.2.2.1 p hx.1 hx.2
    have hgE : 0 ≤ bb_E D 501 (8 + 4 * p) := by rw [bb_E_501]; exact hgt.1
    have hx1 : 0 ≤ p ∧ p ≤ 1 := by omega
    have hmx : 0 ≤ bb_pm (D 501) p ∧ bb_pm (D 501) p ≤ 30 := bb_mxk_rg hw hx.1 hx.2 hgt.1 (Int.le_refl _)
    have hmE : 0 ≤ bb_pm (bb_E D 501) p := by rw [bb_E_501]; exact hmx.1
    have e1 : D 501 (8 + 4 * p) = 0 → ab_cal K 121 [.ref 17, .int (ab_I p)] (ab_mk D L z) = some (.inr "java/util/NoSuchElementException", ab_mk D L (ab_zx z)) := fun hh => by
      simp (discharger := first | assumption | exact True.intro | exact not_false | (refine ab_gK ?_; with_unfolding_all rfl) | exact ab_rgI (by omega) (by omega) | omega) only [ab_a121, bb_y201e hw hk hp9r hx hh, ab_re_t (M := 121) (pc := 2) (E := "java/util/NoSuchElementException") (by rfl) (ab_zzx _), ab_e121_0, ab_e121_1, ab_e121_2, ab_e121_5, ab_e121_6, ab_e121_7, ab_e121_8, ab_e121_9, ab_e121_11, ab_e121_14, ab_e121_15, ab_e121_16, ab_e121_17, ab_e121_20, ab_e121_23, ab_e121_26, ab_e121_29, ab_e121_30, ab_br_t, ab_br_f, ab_re_v (ab_zz _), ab_re_n (ab_zz _)]
    by_cases hh : D 501 (8 + 4 * p) = 0
    · skip
      refine ⟨D, L, ab_zc (ab_zx z), ab_u D 500 7 2, 2, 0, ?_, ?_, by omega, ab_u_eq, fun x => absurd x (by omega), bb_INV_q hn h (fun i _ e => ab_u_row e) (fun k e => ab_u_ne (.inr e)) (fun i _ => rfl) (.inr rfl), Nat.le_succ _, Nat.le_add_right _ 6⟩
      · simp (discharger := first | assumption | exact True.intro | exact not_false | (refine ab_gK ?_; with_unfolding_all rfl) | exact ab_rgI (by omega) (by omega) | omega) only [ab_a30, e1 hh, ab_re_h (M := 30) (pc := 4) (E := "java/util/NoSuchElementException") (ph := 15) (by rfl) (ab_zzx _), ab_e30_0, ab_e30_1, ab_e30_2, ab_e30_3, ab_e30_4, ab_e30_7, ab_e30_8, ab_e30_9, ab_e30_12, ab_e30_13, ab_e30_14, ab_e30_15, ab_e30_16, ab_e30_17, ab_e30_18, ab_e30_19, ab_br_t, ab_br_f, ab_re_v (ab_zz _), ab_re_n (ab_zz _)]
      · simp (discharger := first | assumption | exact True.intro | exact not_false | (refine ab_gK ?_; with_unfolding_all rfl) | exact ab_rgI (by omega) (by omega) | omega) only [ab_a31, ab_y122, if_pos hx1, ab_y100 hx.1 hx.2, hh, bb_y92_2, ab_e31_0, ab_e31_1, ab_e31_2, ab_e31_5, ab_e31_8, ab_e31_9, ab_e31_12, ab_e31_13, ab_e31_14, ab_e31_17, ab_e31_20, ab_e31_21, ab_e31_24, ab_e31_25, ab_e31_28, ab_e31_31, ab_e31_32, ab_e31_33, ab_e31_34, ab_e31_35, ab_e31_36, ab_e31_37, ab_e31_38, ab_e31_41, ab_e31_42, ab_e31_43, ab_e31_44, ab_e31_46, ab_e31_48, ab_e31_49, ab_e31_50, ab_e31_53, ab_e31_56, ab_e31_57, ab_e31_58, ab_e31_59, ab_e31_60, ab_e31_62, ab_e31_65, ab_e31_67, ab_e31_70, ab_e31_71, ab_e31_74, ab_e31_75, ab_e31_76, ab_e31_77, ab_e31_78, ab_e31_81, ab_e31_82, ab_e31_85, bb_e31_86, ab_e31_87, ab_e31_88, ab_e31_91, ab_e31_94, ab_e31_95, ab_e31_96, ab_e31_99, ab_e31_100, ab_e31_103, ab_e31_104, ab_e31_105, ab_e31_106, ab_e31_109, ab_e31_110, ab_br_t, ab_br_f, ab_re_v (ab_zz _), ab_re_n (ab_zz _)]
    · skip
      have lm := fun (L9 : Nat → Int → Int64) (z9 : ab_Z) => bb_l31 (K := K) (D := bb_E D) (L := L9) (z := z9) hwE hx.1 hx.2 0 none (by omega) hmE
      simp only [bb_E_501] at lm
      refine ⟨D, ab_u L 508 0 (ab_I (bb_pm (D 501) p)).toInt64, z, bb_E D, 0, bb_pm (D 501) p, ?_, ?_, by omega, ab_u_eq, fun _ => ab_u_eq, bb_INV_q hn h (fun i _ e => ab_u_row e) (fun k e => ab_u_ne (.inr e)) (fun i e => ab_u_row e) (.inl rfl), Nat.le_refl _, Nat.le_refl _⟩
      · simp (discharger := first | assumption | exact True.intro | exact not_false | (refine ab_gK ?_; with_unfolding_all rfl) | exact ab_rgI (by omega) (by omega) | omega) only [ab_a30, bb_y121 hw hk hp9r hx hh, ab_e30_0, ab_e30_1, ab_e30_2, ab_e30_3, ab_e30_4, ab_e30_7, ab_e30_8, ab_e30_9, ab_e30_12, ab_e30_13, ab_e30_14, ab_e30_15, ab_e30_16, ab_e30_17, ab_e30_18, ab_e30_19, ab_br_t, ab_br_f, ab_re_v (ab_zz _), ab_re_n (ab_zz _)]
      · simp (discharger := first | assumption | exact True.intro | exact not_false | (refine ab_gK ?_; with_unfolding_all rfl) | exact ab_rgI (by omega) (by omega) | omega) only [ab_a31, ab_y122, if_pos hx1, ab_y100 hx.1 hx.2, bb_y92_0, lm, bb_E_501, ab_e31_0, ab_e31_1, ab_e31_2, ab_e31_5, ab_e31_8, ab_e31_9, ab_e31_12, ab_e31_13, ab_e31_14, ab_e31_17, ab_e31_20, ab_e31_21, ab_e31_24, ab_e31_25, ab_e31_28, ab_e31_31, ab_e31_32, ab_e31_33, ab_e31_34, ab_e31_35, ab_e31_36, ab_e31_38, ab_e31_41, ab_e31_42, ab_e31_43, ab_e31_44, ab_e31_46, ab_e31_48, ab_e31_49, ab_e31_50, ab_e31_53, ab_e31_56, ab_e31_57, ab_e31_58, ab_e31_59, ab_e31_60, ab_e31_62, ab_e31_65, ab_e31_67, ab_e31_70, ab_e31_71, ab_e31_74, ab_e31_75, ab_e31_76, ab_e31_77, ab_e31_78, ab_e31_81, ab_e31_82, ab_e31_85, bb_e31_86, ab_e31_87, ab_e31_88, ab_e31_91, ab_e31_94, ab_e31_95, ab_e31_96, ab_e31_99, ab_e31_100, ab_e31_103, ab_e31_104, ab_e31_105, ab_e31_106, ab_e31_109, ab_e31_110, ab_br_t, ab_br_f, ab_re_v (ab_zz _), ab_re_n (ab_zz _)]
  · have hx1 : ¬ (0 ≤ p ∧ p ≤ 1) := by omega
    skip
    refine ⟨D, L, ab_zc (ab_zx z), ab_u D 500 7 1, 1, 0, ?_, ?_, by omega, ab_u_eq, fun x => absurd x (by omega), bb_INV_q hn h (fun i _ e => ab_u_row e) (fun k e => ab_u_ne (.inr e)) (fun i _ => rfl) (.inr rfl), Nat.le_succ _, Nat.le_add_right _ 6⟩
    · simp (discharger := first | assumption | exact True.intro | exact not_false | (refine ab_gK ?_; with_unfolding_all rfl) | exact ab_rgI (by omega) (by omega) | omega) only [ab_a30, ab_a121, bb_y201t hp9r hx, ab_re_t (M := 121) (pc := 2) (E := "java/lang/IndexOutOfBoundsException") (by rfl) (ab_zzx _), ab_re_h (M := 30) (pc := 4) (E := "java/lang/IndexOutOfBoundsException") (ph := 12) (by rfl) (ab_zzx _), ab_e30_0, ab_e30_1, ab_e30_2, ab_e30_3, ab_e30_4, ab_e30_7, ab_e30_8, ab_e30_9, ab_e30_12, ab_e30_13, ab_e30_14, ab_e30_15, ab_e30_16, ab_e30_17, ab_e30_18, ab_e30_19, ab_e121_0, ab_e121_1, ab_e121_2, ab_e121_5, ab_e121_6, ab_e121_7, ab_e121_8, ab_e121_9, ab_e121_11, ab_e121_14, ab_e121_15, ab_e121_16, ab_e121_17, ab_e121_20, ab_e121_23, ab_e121_26, ab_e121_29, ab_e121_30, ab_br_t, ab_br_f, ab_re_v (ab_zz _), ab_re_n (ab_zz _)]
    · simp (discharger := first | assumption | exact True.intro | exact not_false | (refine ab_gK ?_; with_unfolding_all rfl) | exact ab_rgI (by omega) (by omega) | omega) only [ab_a31, ab_y122, if_neg hx1, bb_y92_1, ab_e31_0, ab_e31_1, ab_e31_2, ab_e31_5, ab_e31_8, ab_e31_9, ab_e31_12, ab_e31_13, ab_e31_14, ab_e31_17, ab_e31_20, ab_e31_21, ab_e31_24, ab_e31_25, ab_e31_28, ab_e31_31, ab_e31_32, ab_e31_33, ab_e31_34, ab_e31_35, ab_e31_36, ab_e31_37, ab_e31_38, ab_e31_41, ab_e31_42, ab_e31_43, ab_e31_44, ab_e31_46, ab_e31_48, ab_e31_49, ab_e31_50, ab_e31_53, ab_e31_56, ab_e31_57, ab_e31_58, ab_e31_59, ab_e31_60, ab_e31_62, ab_e31_65, ab_e31_67, ab_e31_70, ab_e31_71, ab_e31_74, ab_e31_75, ab_e31_76, ab_e31_77, ab_e31_78, ab_e31_81, ab_e31_82, ab_e31_85, bb_e31_86, ab_e31_87, ab_e31_88, ab_e31_91, ab_e31_94, ab_e31_95, ab_e31_96, ab_e31_99, ab_e31_100, ab_e31_103, ab_e31_104, ab_e31_105, ab_e31_106, ab_e31_109, ab_e31_110, ab_br_t, ab_br_f, ab_re_v (ab_zz _), ab_re_n (ab_zz _)]

