/-! ===== a book of the model ===== -/
def bb_R (g : Int → Int) (e w : Int) : Int := g (16 + 51 * e + w)
def ab_IR (g : Int → Int) (e : Int) : Prop :=
  (0 ≤ bb_R g e 0 ∧ bb_R g e 0 ≤ 96) ∧ (0 ≤ bb_R g e 1 ∧ bb_R g e 1 ≤ 5) ∧ (0 ≤ bb_R g e 2 ∧ bb_R g e 2 ≤ 4) ∧ (0 ≤ bb_R g e 3 ∧ bb_R g e 3 ≤ 12) ∧ (0 ≤ bb_R g e 4 ∧ bb_R g e 4 ≤ bb_R g e 3) ∧ (-1 ≤ bb_R g e 5 ∧ bb_R g e 5 ≤ 2) ∧ (0 ≤ bb_R g e 6 ∧ bb_R g e 6 ≤ 100000000) ∧
  ∀ s, 0 ≤ s → s < 12 → (0 ≤ bb_R g e (7 + 3 * s + 0) ∧ bb_R g e (7 + 3 * s + 0) ≤ 99) ∧ (0 ≤ bb_R g e (7 + 3 * s + 1) ∧ bb_R g e (7 + 3 * s + 1) ≤ 3) ∧ (bb_R g e (7 + 3 * s + 2) = 0 ∨ bb_R g e (7 + 3 * s + 2) = 1)
theorem ab_IR_n {g : Int → Int} {e : Int} (h : ab_IR g e) : (0 ≤ bb_R g e 0 ∧ bb_R g e 0 ≤ 96) ∧ (0 ≤ bb_R g e 1 ∧ bb_R g e 1 ≤ 5) ∧ (0 ≤ bb_R g e 2 ∧ bb_R g e 2 ≤ 4) ∧ (0 ≤ bb_R g e 3 ∧ bb_R g e 3 ≤ 12) ∧ (0 ≤ bb_R g e 4 ∧ bb_R g e 4 ≤ bb_R g e 3) ∧ (-1 ≤ bb_R g e 5 ∧ bb_R g e 5 ≤ 2) ∧ (0 ≤ bb_R g e 6 ∧ bb_R g e 6 ≤ 100000000) := ⟨h.1, h.2.1, h.2.2.1, h.2.2.2.1, h.2.2.2.2.1, h.2.2.2.2.2.1, h.2.2.2.2.2.2.1⟩
theorem ab_IR_a {g : Int → Int} {e : Int} (h : ab_IR g e) {s : Int} (h0 : 0 ≤ s) (h1 : s < 12) : (0 ≤ bb_R g e (7 + 3 * s + 0) ∧ bb_R g e (7 + 3 * s + 0) ≤ 99) ∧ (0 ≤ bb_R g e (7 + 3 * s + 1) ∧ bb_R g e (7 + 3 * s + 1) ≤ 3) ∧ (bb_R g e (7 + 3 * s + 2) = 0 ∨ bb_R g e (7 + 3 * s + 2) = 1) := h.2.2.2.2.2.2.2 s h0 h1
def ab_rsz (g : Int → Int) (e s : Int) : Int := ab_pw (bb_R g e (7 + 3 * s + 1))
def ab_rlf (g : Int → Int) (e s i : Int) : Int := if bb_R g e (7 + 3 * s + 2) = 1 then bb_R g e (7 + 3 * s + 0) + ab_rsz g e s - 1 - i else bb_R g e (7 + 3 * s + 0) + i
def ab_rall (g : Int → Int) (e : Int) : Int := ab_S (ab_rsz g e) (bb_R g e 3)
def ab_rpage (g : Int → Int) (e p : Int) : Int := ab_pg (ab_rsz g e) (ab_rlf g e) (bb_R g e 3) p
def ab_rwr (g : Int → Int) (e p : Int) : Int := if ab_rpage g e p = p + 1 ∧ p < bb_R g e 0 then 0 else 1
def ab_rwrong (g : Int → Int) (e : Int) : Int := ab_S (ab_rwr g e) (ab_rall g e)
def ab_rcw (g : Int → Int) (e q : Int) : Int := ab_S (fun s => if bb_R g e (7 + 3 * s + 0) ≤ q ∧ q ≤ bb_R g e (7 + 3 * s + 0) + ab_rsz g e s - 1 then 1 else 0) (bb_R g e 3)
def ab_rmm (g : Int → Int) (e j : Int) : Int := if ab_rcw g e (j + 1) = 0 then 1 else 0
def ab_rmiss (g : Int → Int) (e : Int) : Int := ab_S (ab_rmm g e) (bb_R g e 0)
def ab_rth (g : Int → Int) (e s : Int) : Int := bb_R g e 1 * (2 + bb_R g e (7 + 3 * s + 1)) + (if s = 0 then 5 else 0)
theorem ab_rsz_rg (g : Int → Int) (e s : Int) : 2 ≤ ab_rsz g e s ∧ ab_rsz g e s ≤ 16 := by
  unfold ab_rsz ab_pw
  omega
theorem ab_rS_rg (g : Int → Int) (e : Int) {s : Int} (h0 : 0 ≤ s) : 2 * s ≤ ab_S (ab_rsz g e) s ∧ ab_S (ab_rsz g e) s ≤ 16 * s := ⟨ab_Sge 2 h0 (fun i _ _ => (ab_rsz_rg g e i).1), ab_Sle 16 h0 (fun i _ _ => (ab_rsz_rg g e i).2)⟩
theorem ab_rsz_n (g : Int → Int) (e n : Int) : ∀ i, 0 ≤ i → i < n → 0 ≤ ab_rsz g e i := fun i _ _ => by have := ab_rsz_rg g e i; omega
theorem ab_rall_rg {g : Int → Int} {e : Int} (h : ab_IR g e) : 0 ≤ ab_rall g e ∧ ab_rall g e ≤ 192 := by
  have hn := ab_IR_n h
  have := ab_rS_rg g e hn.2.2.2.1.1
  unfold ab_rall
  omega
theorem ab_rlf_rg {g : Int → Int} {e : Int} (h : ab_IR g e) {s i : Int} (h0 : 0 ≤ s) (h1 : s < 12) (h2 : 0 ≤ i) (h3 : i < ab_rsz g e s) : 0 ≤ ab_rlf g e s i ∧ ab_rlf g e s i ≤ 114 := by
  have ha := ab_IR_a h h0 h1
  have hz := ab_rsz_rg g e s
  unfold ab_rlf
  split <;> omega
theorem ab_rpage_rg {g : Int → Int} {e : Int} (h : ab_IR g e) {p : Int} (h0 : 0 ≤ p) (h1 : p < ab_rall g e) : 0 ≤ ab_rpage g e p ∧ ab_rpage g e p ≤ 114 := by
  have hn := ab_IR_n h
  obtain ⟨s, a, b, c, d⟩ := ab_place (f := ab_rsz g e) hn.2.2.2.1.1 h0 h1
  have r := ab_rlf_rg h a (by omega) (i := p - ab_S (ab_rsz g e) s) (by omega) (by omega)
  unfold ab_rpage
  rw [ab_pg_at (ab_rsz_n g e _) a b c d]
  exact r
theorem ab_rwr_rg (g : Int → Int) (e p : Int) : 0 ≤ ab_rwr g e p ∧ ab_rwr g e p ≤ 1 := by unfold ab_rwr; split <;> omega
theorem ab_rwS_rg (g : Int → Int) (e : Int) {n : Int} (h : 0 ≤ n) : 0 ≤ ab_S (ab_rwr g e) n ∧ ab_S (ab_rwr g e) n ≤ n := by
  have a := ab_Sle (f := ab_rwr g e) (n := n) 1 h (fun i _ _ => (ab_rwr_rg g e i).2)
  have c := ab_Sge (f := ab_rwr g e) (n := n) 0 h (fun i _ _ => (ab_rwr_rg g e i).1)
  omega
theorem ab_rcw_rg {g : Int → Int} {e : Int} (h : ab_IR g e) (q : Int) : 0 ≤ ab_rcw g e q ∧ ab_rcw g e q ≤ 12 := by
  have hn := ab_IR_n h
  have a := ab_Sle (f := fun s => if bb_R g e (7 + 3 * s + 0) ≤ q ∧ q ≤ bb_R g e (7 + 3 * s + 0) + ab_rsz g e s - 1 then 1 else 0) (n := bb_R g e 3) 1 hn.2.2.2.1.1 (fun i _ _ => by split <;> omega)
  have c := ab_Sge (f := fun s => if bb_R g e (7 + 3 * s + 0) ≤ q ∧ q ≤ bb_R g e (7 + 3 * s + 0) + ab_rsz g e s - 1 then 1 else 0) (n := bb_R g e 3) 0 hn.2.2.2.1.1 (fun i _ _ => by split <;> omega)
  unfold ab_rcw
  omega
theorem ab_rmmS_rg (g : Int → Int) (e : Int) {j : Int} (h : 0 ≤ j) : 0 ≤ ab_S (ab_rmm g e) j ∧ ab_S (ab_rmm g e) j ≤ j := by
  have a := ab_Sle (f := ab_rmm g e) (n := j) 1 h (fun i _ _ => by unfold ab_rmm; split <;> omega)
  have c := ab_Sge (f := ab_rmm g e) (n := j) 0 h (fun i _ _ => by unfold ab_rmm; split <;> omega)
  omega

theorem ab_y97 {K : ab_Kt} {D : Nat → Int → Int} {L : Nat → Int → Int64} {z : ab_Z} {v lo hi : Int} (hv : ab_rg v) (hl : ab_rg lo) (hh : ab_rg hi) : ab_cal K 97 [.int (ab_I v), .int (ab_I lo), .int (ab_I hi)] (ab_mk D L z) = some (.inl (some (.int (ab_I (if lo ≤ v ∧ v ≤ hi then 1 else 0)))), (ab_mk D L z)) := by
  simp (discharger := first | assumption | exact True.intro | exact not_false | (refine ab_gK ?_; with_unfolding_all rfl) | exact ab_rgI (by omega) (by omega) | omega) only [ab_a97, ab_e97_0, ab_e97_1, ab_e97_2, ab_e97_5, ab_e97_6, ab_e97_7, ab_e97_10, ab_e97_11, ab_e97_14, ab_e97_15, ab_br_t, ab_br_f, ab_re_v (ab_zz _), ab_re_n (ab_zz _)]
  iterate 2 (all_goals (try (refine ab_br_c (fun hc => ?_) (fun hc => ?_) <;> try simp (discharger := first | assumption | exact True.intro | exact not_false | (refine ab_gK ?_; with_unfolding_all rfl) | exact ab_rgI (by omega) (by omega) | omega) only [ab_a97, ab_e97_0, ab_e97_1, ab_e97_2, ab_e97_5, ab_e97_6, ab_e97_7, ab_e97_10, ab_e97_11, ab_e97_14, ab_e97_15, ab_br_t, ab_br_f, ab_re_v (ab_zz _), ab_re_n (ab_zz _)])))
  all_goals exact ab_fin (by first | rw [if_pos ⟨by omega, by omega⟩] | rw [if_neg (by omega)]) rfl

theorem ab_y126 {K : ab_Kt} {D : Nat → Int → Int} {L : Nat → Int → Int64} {z : ab_Z} {a c : Int} (ha : ab_rg a) (hc9 : ab_rg c) : ab_cal K 126 [.int (ab_I a), .int (ab_I c)] (ab_mk D L z) = some (.inl (some (.int (ab_I (max a c)))), (ab_mk D L z)) := by
  simp (discharger := first | assumption | exact True.intro | exact not_false | (refine ab_gK ?_; with_unfolding_all rfl) | exact ab_rgI (by omega) (by omega) | omega) only [ab_a126, ab_e126_0, ab_e126_1, ab_e126_2, ab_e126_5, ab_e126_6, ab_e126_9, ab_e126_10, ab_br_t, ab_br_f, ab_re_v (ab_zz _), ab_re_n (ab_zz _)]
  iterate 1 (all_goals (try (refine ab_br_c (fun hc => ?_) (fun hc => ?_) <;> try simp (discharger := first | assumption | exact True.intro | exact not_false | (refine ab_gK ?_; with_unfolding_all rfl) | exact ab_rgI (by omega) (by omega) | omega) only [ab_a126, ab_e126_0, ab_e126_1, ab_e126_2, ab_e126_5, ab_e126_6, ab_e126_9, ab_e126_10, ab_br_t, ab_br_f, ab_re_v (ab_zz _), ab_re_n (ab_zz _)])))
  all_goals exact ab_fin (by omega) rfl

theorem ab_y110 {K : ab_Kt} {D : Nat → Int → Int} {L : Nat → Int → Int64} {z : ab_Z} {e w : Int} (h0 : 0 ≤ 16 + 51 * e + w) (h1 : 16 + 51 * e + w < 322) : ab_cal K 110 [.ref 500, .int (ab_I e), .int (ab_I w)] (ab_mk D L z) = some (.inl (some (.int (ab_I (bb_R (D 501) e w)))), (ab_mk D L z)) := by
  simp (discharger := first | assumption | exact True.intro | exact not_false | (refine ab_gK ?_; with_unfolding_all rfl) | exact ab_rgI (by omega) (by omega) | omega) only [ab_a110, ab_e110_0, ab_e110_1, ab_e110_4, ab_e110_6, ab_e110_8, ab_e110_9, ab_e110_10, ab_e110_11, ab_e110_12, ab_e110_13, ab_e110_14, ab_br_t, ab_br_f, ab_re_v (ab_zz _), ab_re_n (ab_zz _)]
  rfl

theorem ab_y157 {K : ab_Kt} {D : Nat → Int → Int} {L : Nat → Int → Int64} {z : ab_Z} {e w v : Int} (h0 : 0 ≤ 16 + 51 * e + w) (h1 : 16 + 51 * e + w < 322) : ab_cal K 157 [.ref 500, .int (ab_I e), .int (ab_I w), .int (ab_I v)] (ab_mk D L z) = some (.inl none, ab_mk (ab_u D 501 (16 + 51 * e + w) v) L z) := by
  simp (discharger := first | assumption | exact True.intro | exact not_false | (refine ab_gK ?_; with_unfolding_all rfl) | exact ab_rgI (by omega) (by omega) | omega) only [ab_a157, ab_e157_0, ab_e157_1, ab_e157_4, ab_e157_6, ab_e157_8, ab_e157_9, ab_e157_10, ab_e157_11, ab_e157_12, ab_e157_13, ab_e157_14, ab_e157_15, ab_br_t, ab_br_f, ab_re_v (ab_zz _), ab_re_n (ab_zz _)]

theorem ab_y111 {K : ab_Kt} {D : Nat → Int → Int} {L : Nat → Int → Int64} {z : ab_Z} {e s w : Int} (e0 : 0 ≤ e) (e1 : e < 6) (h0 : 0 ≤ s) (h1 : s < 12) (w0 : 0 ≤ w) (w1 : w ≤ 2) : ab_cal K 111 [.ref 500, .int (ab_I e), .int (ab_I s), .int (ab_I w)] (ab_mk D L z) = some (.inl (some (.int (ab_I (bb_R (D 501) e (7 + 3 * s + w))))), (ab_mk D L z)) := by
  simp (discharger := first | assumption | exact True.intro | exact not_false | (refine ab_gK ?_; with_unfolding_all rfl) | exact ab_rgI (by omega) (by omega) | omega) only [ab_a111, ab_y110, ab_e111_0, ab_e111_1, ab_e111_2, ab_e111_4, ab_e111_5, ab_e111_6, ab_e111_7, ab_e111_8, ab_e111_9, ab_e111_10, ab_e111_13, ab_br_t, ab_br_f, ab_re_v (ab_zz _), ab_re_n (ab_zz _)]

theorem ab_y112 {K : ab_Kt} {D : Nat → Int → Int} {L : Nat → Int → Int64} {z : ab_Z} {e : Int} (e0 : 0 ≤ e) (e1 : e < 6) (hI : ab_IR (D 501) e) {s : Int} (h0 : 0 ≤ s) (h1 : s < 12) : ab_cal K 112 [.ref 500, .int (ab_I e), .int (ab_I s)] (ab_mk D L z) = some (.inl (some (.int (ab_I (ab_rsz (D 501) e s)))), (ab_mk D L z)) := by
  have ha := ab_IR_a hI h0 h1
  simp (discharger := first | assumption | exact True.intro | exact not_false | (refine ab_gK ?_; with_unfolding_all rfl) | exact ab_rgI (by omega) (by omega) | omega) only [ab_a112, ab_y111, ab_e112_0, ab_e112_1, ab_e112_2, ab_e112_3, ab_e112_4, ab_e112_5, ab_e112_8, ab_e112_9, ab_br_t, ab_br_f, ab_re_v (ab_zz _), ab_re_n (ab_zz _)]
  rfl

theorem ab_y103 {K : ab_Kt} {D : Nat → Int → Int} {L : Nat → Int → Int64} {z : ab_Z} {e : Int} (he : ab_rg e) (hm : 0 ≤ D 501 3 ∧ D 501 3 ≤ 6) : ab_cal K 103 [.ref 500, .int (ab_I e)] (ab_mk D L z) = some (.inl (some (.int (ab_I (if 0 ≤ e ∧ e < D 501 3 then 1 else 0)))), (ab_mk D L z)) := by
  simp (discharger := first | assumption | exact True.intro | exact not_false | (refine ab_gK ?_; with_unfolding_all rfl) | exact ab_rgI (by omega) (by omega) | omega) only [ab_a103, ab_y97, ab_e103_0, ab_e103_1, ab_e103_2, ab_e103_3, ab_e103_6, ab_e103_7, ab_e103_8, ab_e103_9, ab_e103_10, ab_e103_13, ab_br_t, ab_br_f, ab_re_v (ab_zz _), ab_re_n (ab_zz _)]
  exact ab_fin (by omega) rfl

theorem ab_y122 {K : ab_Kt} {D : Nat → Int → Int} {L : Nat → Int → Int64} {z : ab_Z} {p : Int} (hp : ab_rg p) : ab_cal K 122 [.int (ab_I p)] (ab_mk D L z) = some (.inl (some (.int (ab_I (if 0 ≤ p ∧ p ≤ 1 then 1 else 0)))), (ab_mk D L z)) := by
  simp (discharger := first | assumption | exact True.intro | exact not_false | (refine ab_gK ?_; with_unfolding_all rfl) | exact ab_rgI (by omega) (by omega) | omega) only [ab_a122, ab_y97, ab_e122_0, ab_e122_1, ab_e122_2, ab_e122_3, ab_e122_6, ab_br_t, ab_br_f, ab_re_v (ab_zz _), ab_re_n (ab_zz _)]

theorem ab_y134 {K : ab_Kt} {D : Nat → Int → Int} {L : Nat → Int → Int64} {z : ab_Z} {e : Int} (e0 : 0 ≤ e) (e1 : e < 6) (hI : ab_IR (D 501) e) {s : Int} (hs : ab_rg s) : ab_cal K 134 [.ref 500, .int (ab_I e), .int (ab_I s)] (ab_mk D L z) = some (.inl (some (.int (ab_I (if 0 ≤ s ∧ s < bb_R (D 501) e 3 then 1 else 0)))), (ab_mk D L z)) := by
  have hn := ab_IR_n hI
  simp (discharger := first | assumption | exact True.intro | exact not_false | (refine ab_gK ?_; with_unfolding_all rfl) | exact ab_rgI (by omega) (by omega) | omega) only [ab_a134, ab_y110, ab_y97, ab_e134_0, ab_e134_1, ab_e134_2, ab_e134_3, ab_e134_4, ab_e134_5, ab_e134_8, ab_e134_9, ab_e134_10, ab_e134_13, ab_br_t, ab_br_f, ab_re_v (ab_zz _), ab_re_n (ab_zz _)]
  exact ab_fin (by omega) rfl

theorem ab_y100 {K : ab_Kt} {D : Nat → Int → Int} {L : Nat → Int → Int64} {z : ab_Z} {p : Int} (p0 : 0 ≤ p) (p1 : p < 2) : ab_cal K 100 [.ref 500, .int (ab_I p)] (ab_mk D L z) = some (.inl (some (.int (ab_I (D 501 (8 + 4 * p))))), (ab_mk D L z)) := by
  simp (discharger := first | assumption | exact True.intro | exact not_false | (refine ab_gK ?_; with_unfolding_all rfl) | exact ab_rgI (by omega) (by omega) | omega) only [ab_a100, ab_e100_0, ab_e100_1, ab_e100_4, ab_e100_6, ab_e100_7, ab_e100_8, ab_e100_9, ab_e100_10, ab_e100_11, ab_br_t, ab_br_f, ab_re_v (ab_zz _), ab_re_n (ab_zz _)]

theorem ab_y123 {K : ab_Kt} {D : Nat → Int → Int} {L : Nat → Int → Int64} {z : ab_Z} {p k : Int} (p0 : 0 ≤ p) (p1 : p < 2) (k0 : 0 ≤ k) (k1 : k < 3) : ab_cal K 123 [.ref 500, .int (ab_I p), .int (ab_I k)] (ab_mk D L z) = some (.inl (some (.int (ab_I (D 501 (8 + 4 * p + 1 + k))))), (ab_mk D L z)) := by
  simp (discharger := first | assumption | exact True.intro | exact not_false | (refine ab_gK ?_; with_unfolding_all rfl) | exact ab_rgI (by omega) (by omega) | omega) only [ab_a123, ab_e123_0, ab_e123_1, ab_e123_4, ab_e123_6, ab_e123_7, ab_e123_8, ab_e123_9, ab_e123_10, ab_e123_11, ab_e123_12, ab_e123_13, ab_e123_14, ab_e123_15, ab_br_t, ab_br_f, ab_re_v (ab_zz _), ab_re_n (ab_zz _)]

def ab_rneed (g : Int → Int) (e : Int) : Int := if bb_R g e 5 < 0 then 0 else max 0 (bb_R g e 6 - g 0)
theorem ab_y125 {K : ab_Kt} {D : Nat → Int → Int} {L : Nat → Int → Int64} {z : ab_Z} {e : Int} (e0 : 0 ≤ e) (e1 : e < 6) (hI : ab_IR (D 501) e) (hm : 0 ≤ D 501 0 ∧ D 501 0 ≤ 100000000) : ab_cal K 125 [.ref 500, .int (ab_I e)] (ab_mk D L z) = some (.inl (some (.int (ab_I (ab_rneed (D 501) e)))), (ab_mk D L z)) := by
  have hn := ab_IR_n hI
  simp (discharger := first | assumption | exact True.intro | exact not_false | (refine ab_gK ?_; with_unfolding_all rfl) | exact ab_rgI (by omega) (by omega) | omega) only [ab_a125, ab_y110, ab_y126, ab_e125_0, ab_e125_1, ab_e125_2, ab_e125_3, ab_e125_6, ab_e125_9, ab_e125_10, ab_e125_13, ab_e125_14, ab_e125_15, ab_e125_16, ab_e125_18, ab_e125_21, ab_e125_22, ab_e125_25, ab_e125_26, ab_e125_27, ab_e125_28, ab_e125_31, ab_br_t, ab_br_f, ab_re_v (ab_zz _), ab_re_n (ab_zz _)]
  iterate 1 (all_goals (try (refine ab_br_c (fun hc => ?_) (fun hc => ?_) <;> try simp (discharger := first | assumption | exact True.intro | exact not_false | (refine ab_gK ?_; with_unfolding_all rfl) | exact ab_rgI (by omega) (by omega) | omega) only [ab_a125, ab_y110, ab_y126, ab_e125_0, ab_e125_1, ab_e125_2, ab_e125_3, ab_e125_6, ab_e125_9, ab_e125_10, ab_e125_13, ab_e125_14, ab_e125_15, ab_e125_16, ab_e125_18, ab_e125_21, ab_e125_22, ab_e125_25, ab_e125_26, ab_e125_27, ab_e125_28, ab_e125_31, ab_br_t, ab_br_f, ab_re_v (ab_zz _), ab_re_n (ab_zz _)])))
  all_goals exact ab_fin (by unfold ab_rneed; first | rw [if_pos (by omega)] | rw [if_neg (by omega)]) rfl

theorem ab_y132 {K : ab_Kt} {D : Nat → Int → Int} {L : Nat → Int → Int64} {z : ab_Z} {e : Int} (e0 : 0 ≤ e) (e1 : e < 6) (hI : ab_IR (D 501) e) {s : Int} (h0 : 0 ≤ s) (h1 : s < 12) : ab_cal K 132 [.ref 500, .int (ab_I e), .int (ab_I s)] (ab_mk D L z) = some (.inl (some (.int (ab_I (ab_rth (D 501) e s)))), (ab_mk D L z)) := by
  simp (discharger := first | assumption | exact True.intro | exact not_false | (refine ab_gK ?_; with_unfolding_all rfl) | exact ab_rgI (by omega) (by omega) | omega) only [ab_a132, ab_y110, ab_y111, ab_e132_0, ab_e132_1, ab_e132_2, ab_e132_3, ab_e132_6, ab_e132_7, ab_e132_8, ab_e132_9, ab_e132_10, ab_e132_11, ab_e132_14, ab_e132_15, ab_e132_16, ab_e132_17, ab_e132_20, ab_e132_21, ab_e132_24, ab_e132_25, ab_e132_26, ab_br_t, ab_br_f, ab_re_v (ab_zz _), ab_re_n (ab_zz _)]
  iterate 1 (all_goals (try (refine ab_br_c (fun hc => ?_) (fun hc => ?_) <;> try simp (discharger := first | assumption | exact True.intro | exact not_false | (refine ab_gK ?_; with_unfolding_all rfl) | exact ab_rgI (by omega) (by omega) | omega) only [ab_a132, ab_y110, ab_y111, ab_e132_0, ab_e132_1, ab_e132_2, ab_e132_3, ab_e132_6, ab_e132_7, ab_e132_8, ab_e132_9, ab_e132_10, ab_e132_11, ab_e132_14, ab_e132_15, ab_e132_16, ab_e132_17, ab_e132_20, ab_e132_21, ab_e132_24, ab_e132_25, ab_e132_26, ab_br_t, ab_br_f, ab_re_v (ab_zz _), ab_re_n (ab_zz _)])))
  · exact ab_fin (by unfold ab_rth; rw [if_pos hc]) rfl
  · exact ab_fin (by unfold ab_rth; rw [if_neg hc]) rfl

theorem ab_l148 {K : ab_Kt} {D : Nat → Int → Int} {L : Nat → Int → Int64} {z : ab_Z} {e : Int} (e0 : 0 ≤ e) (e1 : e < 6) (hI : ab_IR (D 501) e) (n : Int) (h2 : n ≤ 12) (s acc : Int) (h0 : 0 ≤ s) (h1 : s ≤ n) (ha : acc = ab_S (ab_rsz (D 501) e) s) : ab_ev K 148 5 [some (.ref 500), some (.int (ab_I e)), some (.int (ab_I n)), some (.int (ab_I acc)), some (.int (ab_I s))] [] (ab_mk D L z) = some (.inl (some (.int (ab_I (ab_S (ab_rsz (D 501) e) n)))), (ab_mk D L z)) := by
  rw [ab_e148_5]
  by_cases hc : n ≤ s
  · simp (discharger := first | assumption | exact True.intro | exact not_false | (refine ab_gK ?_; with_unfolding_all rfl) | exact ab_rgI (by omega) (by omega) | omega) only [ab_e148_0, ab_e148_1, ab_e148_2, ab_e148_3, ab_e148_7, ab_e148_8, ab_e148_11, ab_e148_12, ab_e148_13, ab_e148_14, ab_e148_16, ab_e148_19, ab_e148_20, ab_e148_21, ab_e148_24, ab_e148_27, ab_e148_28, ab_br_t, ab_br_f, ab_re_v (ab_zz _), ab_re_n (ab_zz _)]
    exact ab_fin (by rw [ha, show s = n by omega]) rfl
  · simp (discharger := first | assumption | exact True.intro | exact not_false | (refine ab_gK ?_; with_unfolding_all rfl) | exact ab_rgI (by omega) (by omega) | omega) only [ab_y112, ab_e148_0, ab_e148_1, ab_e148_2, ab_e148_3, ab_e148_7, ab_e148_8, ab_e148_11, ab_e148_12, ab_e148_13, ab_e148_14, ab_e148_16, ab_e148_19, ab_e148_20, ab_e148_21, ab_e148_24, ab_e148_27, ab_e148_28, ab_br_t, ab_br_f, ab_re_v (ab_zz _), ab_re_n (ab_zz _)]
    exact ab_l148 e0 e1 hI n h2 (s + 1) _ (by omega) (by omega) (by rw [ab_S1 _ h0, ha])
termination_by (n - s).toNat
decreasing_by all_goals omega

theorem ab_y148 {K : ab_Kt} {D : Nat → Int → Int} {L : Nat → Int → Int64} {z : ab_Z} {e : Int} (e0 : 0 ≤ e) (e1 : e < 6) (hI : ab_IR (D 501) e) {n : Int} (h0 : 0 ≤ n) (h1 : n ≤ 12) : ab_cal K 148 [.ref 500, .int (ab_I e), .int (ab_I n)] (ab_mk D L z) = some (.inl (some (.int (ab_I (ab_S (ab_rsz (D 501) e) n)))), (ab_mk D L z)) := by
  simp (discharger := first | assumption | exact True.intro | exact not_false | (refine ab_gK ?_; with_unfolding_all rfl) | exact ab_rgI (by omega) (by omega) | omega) only [ab_a148, ab_e148_0, ab_e148_1, ab_e148_2, ab_e148_3, ab_e148_7, ab_e148_8, ab_e148_11, ab_e148_12, ab_e148_13, ab_e148_14, ab_e148_16, ab_e148_19, ab_e148_20, ab_e148_21, ab_e148_24, ab_e148_27, ab_e148_28, ab_br_t, ab_br_f, ab_re_v (ab_zz _), ab_re_n (ab_zz _)]
  exact ab_l148 e0 e1 hI n h1 0 0 (by omega) h0 rfl

theorem ab_y104 {K : ab_Kt} {D : Nat → Int → Int} {L : Nat → Int → Int64} {z : ab_Z} {e : Int} (e0 : 0 ≤ e) (e1 : e < 6) (hI : ab_IR (D 501) e) : ab_cal K 104 [.ref 500, .int (ab_I e)] (ab_mk D L z) = some (.inl (some (.int (ab_I (ab_rall (D 501) e)))), (ab_mk D L z)) := by
  have hn := ab_IR_n hI
  simp (discharger := first | assumption | exact True.intro | exact not_false | (refine ab_gK ?_; with_unfolding_all rfl) | exact ab_rgI (by omega) (by omega) | omega) only [ab_a104, ab_y110, ab_y148, ab_e104_0, ab_e104_1, ab_e104_2, ab_e104_3, ab_e104_4, ab_e104_5, ab_e104_8, ab_e104_11, ab_br_t, ab_br_f, ab_re_v (ab_zz _), ab_re_n (ab_zz _)]
  rfl

theorem ab_l146 {K : ab_Kt} {D : Nat → Int → Int} {L : Nat → Int → Int64} {z : ab_Z} {e : Int} (e0 : 0 ≤ e) (e1 : e < 6) (hI : ab_IR (D 501) e) (p : Int) (p0 : 0 ≤ p) (p1 : p < ab_rall (D 501) e) (s r : Int) (h0 : 0 ≤ s) (h1 : s ≤ bb_R (D 501) e 3) (ha : r = p - ab_S (ab_rsz (D 501) e) s) (hr : 0 ≤ r) : ab_ev K 146 5 [some (.ref 500), some (.int (ab_I e)), some (.int (ab_I p)), some (.int (ab_I s)), some (.int (ab_I r))] [] (ab_mk D L z) = some (.inl (some (.int (ab_I (ab_rpage (D 501) e p)))), (ab_mk D L z)) := by
  have hn := ab_IR_n hI
  have hal := ab_rall_rg hI
  have hS := ab_rS_rg (D 501) e h0
  have hs : s < bb_R (D 501) e 3 := by
    by_cases hx : s = bb_R (D 501) e 3
    · rw [hx] at ha
      have : ab_rall (D 501) e = ab_S (ab_rsz (D 501) e) (bb_R (D 501) e 3) := rfl
      omega
    · omega
  have hz := ab_rsz_rg (D 501) e s
  have haa := ab_IR_a hI h0 (by omega)
  rw [ab_e146_5]
  by_cases hc : r < ab_rsz (D 501) e s
  · have hp : ab_rpage (D 501) e p = ab_rlf (D 501) e s r := by
      unfold ab_rpage
      rw [ab_pg_at (ab_rsz_n _ e _) h0 hs (by omega) (by omega), ha]
    by_cases hd : bb_R (D 501) e (7 + 3 * s + 2) = 1
    · simp (discharger := first | assumption | exact True.intro | exact not_false | (refine ab_gK ?_; with_unfolding_all rfl) | exact ab_rgI (by omega) (by omega) | omega) only [ab_y112, ab_y111, ab_e146_0, ab_e146_1, ab_e146_2, ab_e146_3, ab_e146_7, ab_e146_8, ab_e146_9, ab_e146_10, ab_e146_13, ab_e146_16, ab_e146_18, ab_e146_19, ab_e146_20, ab_e146_21, ab_e146_24, ab_e146_25, ab_e146_27, ab_e146_30, ab_e146_33, ab_e146_34, ab_e146_35, ab_e146_36, ab_e146_37, ab_e146_40, ab_e146_41, ab_e146_44, ab_e146_45, ab_e146_46, ab_e146_47, ab_e146_48, ab_e146_51, ab_e146_52, ab_e146_53, ab_e146_54, ab_e146_57, ab_e146_58, ab_e146_59, ab_e146_60, ab_e146_62, ab_e146_63, ab_e146_66, ab_e146_67, ab_e146_68, ab_e146_69, ab_e146_70, ab_e146_73, ab_e146_75, ab_e146_76, ab_br_t, ab_br_f, ab_re_v (ab_zz _), ab_re_n (ab_zz _)]
      exact ab_fin (by rw [hp]; unfold ab_rlf; rw [if_pos hd]) rfl
    · simp (discharger := first | assumption | exact True.intro | exact not_false | (refine ab_gK ?_; with_unfolding_all rfl) | exact ab_rgI (by omega) (by omega) | omega) only [ab_y112, ab_y111, ab_e146_0, ab_e146_1, ab_e146_2, ab_e146_3, ab_e146_7, ab_e146_8, ab_e146_9, ab_e146_10, ab_e146_13, ab_e146_16, ab_e146_18, ab_e146_19, ab_e146_20, ab_e146_21, ab_e146_24, ab_e146_25, ab_e146_27, ab_e146_30, ab_e146_33, ab_e146_34, ab_e146_35, ab_e146_36, ab_e146_37, ab_e146_40, ab_e146_41, ab_e146_44, ab_e146_45, ab_e146_46, ab_e146_47, ab_e146_48, ab_e146_51, ab_e146_52, ab_e146_53, ab_e146_54, ab_e146_57, ab_e146_58, ab_e146_59, ab_e146_60, ab_e146_62, ab_e146_63, ab_e146_66, ab_e146_67, ab_e146_68, ab_e146_69, ab_e146_70, ab_e146_73, ab_e146_75, ab_e146_76, ab_br_t, ab_br_f, ab_re_v (ab_zz _), ab_re_n (ab_zz _)]
      exact ab_fin (by rw [hp]; unfold ab_rlf; rw [if_neg hd]) rfl
  · simp (discharger := first | assumption | exact True.intro | exact not_false | (refine ab_gK ?_; with_unfolding_all rfl) | exact ab_rgI (by omega) (by omega) | omega) only [ab_y112, ab_e146_0, ab_e146_1, ab_e146_2, ab_e146_3, ab_e146_7, ab_e146_8, ab_e146_9, ab_e146_10, ab_e146_13, ab_e146_16, ab_e146_18, ab_e146_19, ab_e146_20, ab_e146_21, ab_e146_24, ab_e146_25, ab_e146_27, ab_e146_30, ab_e146_33, ab_e146_34, ab_e146_35, ab_e146_36, ab_e146_37, ab_e146_40, ab_e146_41, ab_e146_44, ab_e146_45, ab_e146_46, ab_e146_47, ab_e146_48, ab_e146_51, ab_e146_52, ab_e146_53, ab_e146_54, ab_e146_57, ab_e146_58, ab_e146_59, ab_e146_60, ab_e146_62, ab_e146_63, ab_e146_66, ab_e146_67, ab_e146_68, ab_e146_69, ab_e146_70, ab_e146_73, ab_e146_75, ab_e146_76, ab_br_t, ab_br_f, ab_re_v (ab_zz _), ab_re_n (ab_zz _)]
    exact ab_l146 e0 e1 hI p p0 p1 (s + 1) _ (by omega) (by omega) (by rw [ab_S1 _ h0, ha]; omega) (by omega)
termination_by (bb_R (D 501) e 3 - s).toNat
decreasing_by all_goals omega

theorem ab_y146 {K : ab_Kt} {D : Nat → Int → Int} {L : Nat → Int → Int64} {z : ab_Z} {e : Int} (e0 : 0 ≤ e) (e1 : e < 6) (hI : ab_IR (D 501) e) {p : Int} (p0 : 0 ≤ p) (p1 : p < ab_rall (D 501) e) : ab_cal K 146 [.ref 500, .int (ab_I e), .int (ab_I p)] (ab_mk D L z) = some (.inl (some (.int (ab_I (ab_rpage (D 501) e p)))), (ab_mk D L z)) := by
  have hn := ab_IR_n hI
  simp (discharger := first | assumption | exact True.intro | exact not_false | (refine ab_gK ?_; with_unfolding_all rfl) | exact ab_rgI (by omega) (by omega) | omega) only [ab_a146, ab_e146_0, ab_e146_1, ab_e146_2, ab_e146_3, ab_e146_7, ab_e146_8, ab_e146_9, ab_e146_10, ab_e146_13, ab_e146_16, ab_e146_18, ab_e146_19, ab_e146_20, ab_e146_21, ab_e146_24, ab_e146_25, ab_e146_27, ab_e146_30, ab_e146_33, ab_e146_34, ab_e146_35, ab_e146_36, ab_e146_37, ab_e146_40, ab_e146_41, ab_e146_44, ab_e146_45, ab_e146_46, ab_e146_47, ab_e146_48, ab_e146_51, ab_e146_52, ab_e146_53, ab_e146_54, ab_e146_57, ab_e146_58, ab_e146_59, ab_e146_60, ab_e146_62, ab_e146_63, ab_e146_66, ab_e146_67, ab_e146_68, ab_e146_69, ab_e146_70, ab_e146_73, ab_e146_75, ab_e146_76, ab_br_t, ab_br_f, ab_re_v (ab_zz _), ab_re_n (ab_zz _)]
  exact ab_l146 e0 e1 hI p p0 p1 0 p (by omega) (by omega) (by rw [ab_S0]; omega) p0

theorem ab_y141 {K : ab_Kt} {D : Nat → Int → Int} {L : Nat → Int → Int64} {z : ab_Z} {e : Int} (e0 : 0 ≤ e) (e1 : e < 6) (hI : ab_IR (D 501) e) {p : Int} (p0 : 0 ≤ p) (p1 : p < ab_rall (D 501) e) : ab_cal K 141 [.ref 500, .int (ab_I e), .int (ab_I p)] (ab_mk D L z) = some (.inl (some (.int (ab_I (1 - ab_rwr (D 501) e p)))), (ab_mk D L z)) := by
  have hn := ab_IR_n hI
  have hp := ab_rpage_rg hI p0 p1
  have hal := ab_rall_rg hI
  simp (discharger := first | assumption | exact True.intro | exact not_false | (refine ab_gK ?_; with_unfolding_all rfl) | exact ab_rgI (by omega) (by omega) | omega) only [ab_a141, ab_y146, ab_y110, ab_e141_0, ab_e141_1, ab_e141_2, ab_e141_3, ab_e141_6, ab_e141_7, ab_e141_8, ab_e141_9, ab_e141_12, ab_e141_13, ab_e141_14, ab_e141_15, ab_e141_16, ab_e141_19, ab_e141_22, ab_e141_23, ab_e141_26, ab_e141_27, ab_br_t, ab_br_f, ab_re_v (ab_zz _), ab_re_n (ab_zz _)]
  iterate 2 (all_goals (try (refine ab_br_c (fun hc => ?_) (fun hc => ?_) <;> try simp (discharger := first | assumption | exact True.intro | exact not_false | (refine ab_gK ?_; with_unfolding_all rfl) | exact ab_rgI (by omega) (by omega) | omega) only [ab_a141, ab_y146, ab_y110, ab_e141_0, ab_e141_1, ab_e141_2, ab_e141_3, ab_e141_6, ab_e141_7, ab_e141_8, ab_e141_9, ab_e141_12, ab_e141_13, ab_e141_14, ab_e141_15, ab_e141_16, ab_e141_19, ab_e141_22, ab_e141_23, ab_e141_26, ab_e141_27, ab_br_t, ab_br_f, ab_re_v (ab_zz _), ab_re_n (ab_zz _)])))
  all_goals exact ab_fin (by unfold ab_rwr; omega) rfl

theorem ab_l105 {K : ab_Kt} {D : Nat → Int → Int} {L : Nat → Int → Int64} {z : ab_Z} {e : Int} (e0 : 0 ≤ e) (e1 : e < 6) (hI : ab_IR (D 501) e) (k w : Int) (h0 : 0 ≤ k) (h1 : k ≤ ab_rall (D 501) e) (ha : w = ab_S (ab_rwr (D 501) e) k) : ab_ev K 105 11 [some (.ref 500), some (.int (ab_I e)), some (.int (ab_I w)), some (.int (ab_I (ab_rall (D 501) e))), some (.int (ab_I k))] [] (ab_mk D L z) = some (.inl (some (.int (ab_I (ab_rwrong (D 501) e)))), (ab_mk D L z)) := by
  have hal := ab_rall_rg hI
  have hw := ab_rwr_rg (D 501) e k
  rw [ab_e105_11]
  by_cases hc : ab_rall (D 501) e ≤ k
  · simp (discharger := first | assumption | exact True.intro | exact not_false | (refine ab_gK ?_; with_unfolding_all rfl) | exact ab_rgI (by omega) (by omega) | omega) only [ab_e105_0, ab_e105_1, ab_e105_2, ab_e105_3, ab_e105_4, ab_e105_7, ab_e105_8, ab_e105_9, ab_e105_13, ab_e105_14, ab_e105_17, ab_e105_18, ab_e105_19, ab_e105_20, ab_e105_22, ab_e105_25, ab_e105_28, ab_e105_29, ab_e105_32, ab_e105_33, ab_e105_34, ab_e105_35, ab_e105_38, ab_e105_41, ab_e105_42, ab_br_t, ab_br_f, ab_re_v (ab_zz _), ab_re_n (ab_zz _)]
    exact ab_fin (by rw [ha, show k = ab_rall (D 501) e by omega]; rfl) rfl
  · simp (discharger := first | assumption | exact True.intro | exact not_false | (refine ab_gK ?_; with_unfolding_all rfl) | exact ab_rgI (by omega) (by omega) | omega) only [ab_y141, ab_e105_0, ab_e105_1, ab_e105_2, ab_e105_3, ab_e105_4, ab_e105_7, ab_e105_8, ab_e105_9, ab_e105_13, ab_e105_14, ab_e105_17, ab_e105_18, ab_e105_19, ab_e105_20, ab_e105_22, ab_e105_25, ab_e105_28, ab_e105_29, ab_e105_32, ab_e105_33, ab_e105_34, ab_e105_35, ab_e105_38, ab_e105_41, ab_e105_42, ab_br_t, ab_br_f, ab_re_v (ab_zz _), ab_re_n (ab_zz _)]
    iterate 1 (all_goals (try (refine ab_br_c (fun hc => ?_) (fun hc => ?_) <;> try simp (discharger := first | assumption | exact True.intro | exact not_false | (refine ab_gK ?_; with_unfolding_all rfl) | exact ab_rgI (by omega) (by omega) | omega) only [ab_y141, ab_e105_0, ab_e105_1, ab_e105_2, ab_e105_3, ab_e105_4, ab_e105_7, ab_e105_8, ab_e105_9, ab_e105_13, ab_e105_14, ab_e105_17, ab_e105_18, ab_e105_19, ab_e105_20, ab_e105_22, ab_e105_25, ab_e105_28, ab_e105_29, ab_e105_32, ab_e105_33, ab_e105_34, ab_e105_35, ab_e105_38, ab_e105_41, ab_e105_42, ab_br_t, ab_br_f, ab_re_v (ab_zz _), ab_re_n (ab_zz _)])))
    all_goals exact ab_l105 e0 e1 hI (k + 1) _ (by omega) (by omega) (by rw [ab_S1 _ h0, ha]; omega)
termination_by (ab_rall (D 501) e - k).toNat
decreasing_by all_goals omega

theorem ab_y105 {K : ab_Kt} {D : Nat → Int → Int} {L : Nat → Int → Int64} {z : ab_Z} {e : Int} (e0 : 0 ≤ e) (e1 : e < 6) (hI : ab_IR (D 501) e) : ab_cal K 105 [.ref 500, .int (ab_I e)] (ab_mk D L z) = some (.inl (some (.int (ab_I (ab_rwrong (D 501) e)))), (ab_mk D L z)) := by
  have hal := ab_rall_rg hI
  simp (discharger := first | assumption | exact True.intro | exact not_false | (refine ab_gK ?_; with_unfolding_all rfl) | exact ab_rgI (by omega) (by omega) | omega) only [ab_a105, ab_y104, ab_e105_0, ab_e105_1, ab_e105_2, ab_e105_3, ab_e105_4, ab_e105_7, ab_e105_8, ab_e105_9, ab_e105_13, ab_e105_14, ab_e105_17, ab_e105_18, ab_e105_19, ab_e105_20, ab_e105_22, ab_e105_25, ab_e105_28, ab_e105_29, ab_e105_32, ab_e105_33, ab_e105_34, ab_e105_35, ab_e105_38, ab_e105_41, ab_e105_42, ab_br_t, ab_br_f, ab_re_v (ab_zz _), ab_re_n (ab_zz _)]
  exact ab_l105 e0 e1 hI 0 0 (by omega) (by omega) rfl

theorem ab_l136 {K : ab_Kt} {D : Nat → Int → Int} {L : Nat → Int → Int64} {z : ab_Z} {e : Int} (e0 : 0 ≤ e) (e1 : e < 6) (hI : ab_IR (D 501) e) (q : Int) (hq : ab_rg q) (s c : Int) (h0 : 0 ≤ s) (h1 : s ≤ bb_R (D 501) e 3) (ha : c = ab_S (fun s => if bb_R (D 501) e (7 + 3 * s + 0) ≤ q ∧ q ≤ bb_R (D 501) e (7 + 3 * s + 0) + ab_rsz (D 501) e s - 1 then 1 else 0) s) : ab_ev K 136 5 [some (.ref 500), some (.int (ab_I e)), some (.int (ab_I q)), some (.int (ab_I c)), some (.int (ab_I s))] [] (ab_mk D L z) = some (.inl (some (.int (ab_I (ab_rcw (D 501) e q)))), (ab_mk D L z)) := by
  have hn := ab_IR_n hI
  rw [ab_e136_5]
  by_cases hc : bb_R (D 501) e 3 ≤ s
  · simp (discharger := first | assumption | exact True.intro | exact not_false | (refine ab_gK ?_; with_unfolding_all rfl) | exact ab_rgI (by omega) (by omega) | omega) only [ab_y110, ab_e136_0, ab_e136_1, ab_e136_2, ab_e136_3, ab_e136_7, ab_e136_8, ab_e136_9, ab_e136_10, ab_e136_13, ab_e136_16, ab_e136_17, ab_e136_18, ab_e136_19, ab_e136_20, ab_e136_22, ab_e136_23, ab_e136_26, ab_e136_27, ab_e136_28, ab_e136_30, ab_e136_31, ab_e136_34, ab_e136_35, ab_e136_36, ab_e136_38, ab_e136_41, ab_e136_42, ab_e136_43, ab_e136_44, ab_e136_47, ab_e136_50, ab_e136_51, ab_e136_54, ab_e136_55, ab_e136_56, ab_e136_57, ab_e136_60, ab_e136_63, ab_e136_64, ab_br_t, ab_br_f, ab_re_v (ab_zz _), ab_re_n (ab_zz _)]
    exact ab_fin (by rw [ha, show s = bb_R (D 501) e 3 by omega]; rfl) rfl
  · have hz := ab_rsz_rg (D 501) e s
    have haa := ab_IR_a hI h0 (by omega)
    simp (discharger := first | assumption | exact True.intro | exact not_false | (refine ab_gK ?_; with_unfolding_all rfl) | exact ab_rgI (by omega) (by omega) | omega) only [ab_y110, ab_y111, ab_y112, ab_y97, ab_e136_0, ab_e136_1, ab_e136_2, ab_e136_3, ab_e136_7, ab_e136_8, ab_e136_9, ab_e136_10, ab_e136_13, ab_e136_16, ab_e136_17, ab_e136_18, ab_e136_19, ab_e136_20, ab_e136_22, ab_e136_23, ab_e136_26, ab_e136_27, ab_e136_28, ab_e136_30, ab_e136_31, ab_e136_34, ab_e136_35, ab_e136_36, ab_e136_38, ab_e136_41, ab_e136_42, ab_e136_43, ab_e136_44, ab_e136_47, ab_e136_50, ab_e136_51, ab_e136_54, ab_e136_55, ab_e136_56, ab_e136_57, ab_e136_60, ab_e136_63, ab_e136_64, ab_br_t, ab_br_f, ab_re_v (ab_zz _), ab_re_n (ab_zz _)]
    iterate 1 (all_goals (try (refine ab_br_c (fun hc => ?_) (fun hc => ?_) <;> try simp (discharger := first | assumption | exact True.intro | exact not_false | (refine ab_gK ?_; with_unfolding_all rfl) | exact ab_rgI (by omega) (by omega) | omega) only [ab_y110, ab_y111, ab_y112, ab_y97, ab_e136_0, ab_e136_1, ab_e136_2, ab_e136_3, ab_e136_7, ab_e136_8, ab_e136_9, ab_e136_10, ab_e136_13, ab_e136_16, ab_e136_17, ab_e136_18, ab_e136_19, ab_e136_20, ab_e136_22, ab_e136_23, ab_e136_26, ab_e136_27, ab_e136_28, ab_e136_30, ab_e136_31, ab_e136_34, ab_e136_35, ab_e136_36, ab_e136_38, ab_e136_41, ab_e136_42, ab_e136_43, ab_e136_44, ab_e136_47, ab_e136_50, ab_e136_51, ab_e136_54, ab_e136_55, ab_e136_56, ab_e136_57, ab_e136_60, ab_e136_63, ab_e136_64, ab_br_t, ab_br_f, ab_re_v (ab_zz _), ab_re_n (ab_zz _)])))
    all_goals exact ab_l136 e0 e1 hI q hq (s + 1) _ (by omega) (by omega) (by rw [ab_S1 _ h0, ← ha]; omega)
termination_by (bb_R (D 501) e 3 - s).toNat
decreasing_by all_goals omega

theorem ab_y136 {K : ab_Kt} {D : Nat → Int → Int} {L : Nat → Int → Int64} {z : ab_Z} {e : Int} (e0 : 0 ≤ e) (e1 : e < 6) (hI : ab_IR (D 501) e) {q : Int} (hq : ab_rg q) : ab_cal K 136 [.ref 500, .int (ab_I e), .int (ab_I q)] (ab_mk D L z) = some (.inl (some (.int (ab_I (ab_rcw (D 501) e q)))), (ab_mk D L z)) := by
  have hn := ab_IR_n hI
  simp (discharger := first | assumption | exact True.intro | exact not_false | (refine ab_gK ?_; with_unfolding_all rfl) | exact ab_rgI (by omega) (by omega) | omega) only [ab_a136, ab_e136_0, ab_e136_1, ab_e136_2, ab_e136_3, ab_e136_7, ab_e136_8, ab_e136_9, ab_e136_10, ab_e136_13, ab_e136_16, ab_e136_17, ab_e136_18, ab_e136_19, ab_e136_20, ab_e136_22, ab_e136_23, ab_e136_26, ab_e136_27, ab_e136_28, ab_e136_30, ab_e136_31, ab_e136_34, ab_e136_35, ab_e136_36, ab_e136_38, ab_e136_41, ab_e136_42, ab_e136_43, ab_e136_44, ab_e136_47, ab_e136_50, ab_e136_51, ab_e136_54, ab_e136_55, ab_e136_56, ab_e136_57, ab_e136_60, ab_e136_63, ab_e136_64, ab_br_t, ab_br_f, ab_re_v (ab_zz _), ab_re_n (ab_zz _)]
  exact ab_l136 e0 e1 hI q hq 0 0 (by omega) (by omega) rfl

theorem ab_l139 {K : ab_Kt} {D : Nat → Int → Int} {L : Nat → Int → Int64} {z : ab_Z} {e : Int} (e0 : 0 ≤ e) (e1 : e < 6) (hI : ab_IR (D 501) e) (j p c : Int) (h0 : 0 ≤ j) (h1 : j ≤ bb_R (D 501) e 0) (hp : p = j + 1) (ha : c = ab_S (ab_rmm (D 501) e) j) : ab_ev K 139 4 [some (.ref 500), some (.int (ab_I e)), some (.int (ab_I c)), some (.int (ab_I p))] [] (ab_mk D L z) = some (.inl (some (.int (ab_I (ab_rmiss (D 501) e)))), (ab_mk D L z)) := by
  have hn := ab_IR_n hI
  have hcw := ab_rcw_rg hI p
  have hmm : ab_rmm (D 501) e j = if ab_rcw (D 501) e p = 0 then 1 else 0 := by rw [hp]; rfl
  rw [ab_e139_4]
  by_cases hc : bb_R (D 501) e 0 ≤ j
  · simp (discharger := first | assumption | exact True.intro | exact not_false | (refine ab_gK ?_; with_unfolding_all rfl) | exact ab_rgI (by omega) (by omega) | omega) only [ab_y110, ab_e139_0, ab_e139_1, ab_e139_2, ab_e139_3, ab_e139_5, ab_e139_6, ab_e139_7, ab_e139_8, ab_e139_11, ab_e139_14, ab_e139_15, ab_e139_16, ab_e139_17, ab_e139_18, ab_e139_21, ab_e139_24, ab_e139_25, ab_e139_28, ab_e139_29, ab_e139_30, ab_e139_31, ab_e139_34, ab_e139_37, ab_e139_38, ab_br_t, ab_br_f, ab_re_v (ab_zz _), ab_re_n (ab_zz _)]
    exact ab_fin (by rw [ha, show j = bb_R (D 501) e 0 by omega]; rfl) rfl
  · simp (discharger := first | assumption | exact True.intro | exact not_false | (refine ab_gK ?_; with_unfolding_all rfl) | exact ab_rgI (by omega) (by omega) | omega) only [ab_y110, ab_y136, ab_e139_0, ab_e139_1, ab_e139_2, ab_e139_3, ab_e139_5, ab_e139_6, ab_e139_7, ab_e139_8, ab_e139_11, ab_e139_14, ab_e139_15, ab_e139_16, ab_e139_17, ab_e139_18, ab_e139_21, ab_e139_24, ab_e139_25, ab_e139_28, ab_e139_29, ab_e139_30, ab_e139_31, ab_e139_34, ab_e139_37, ab_e139_38, ab_br_t, ab_br_f, ab_re_v (ab_zz _), ab_re_n (ab_zz _)]
    iterate 1 (all_goals (try (refine ab_br_c (fun hc => ?_) (fun hc => ?_) <;> try simp (discharger := first | assumption | exact True.intro | exact not_false | (refine ab_gK ?_; with_unfolding_all rfl) | exact ab_rgI (by omega) (by omega) | omega) only [ab_y110, ab_y136, ab_e139_0, ab_e139_1, ab_e139_2, ab_e139_3, ab_e139_5, ab_e139_6, ab_e139_7, ab_e139_8, ab_e139_11, ab_e139_14, ab_e139_15, ab_e139_16, ab_e139_17, ab_e139_18, ab_e139_21, ab_e139_24, ab_e139_25, ab_e139_28, ab_e139_29, ab_e139_30, ab_e139_31, ab_e139_34, ab_e139_37, ab_e139_38, ab_br_t, ab_br_f, ab_re_v (ab_zz _), ab_re_n (ab_zz _)])))
    all_goals exact ab_l139 e0 e1 hI (j + 1) _ _ (by omega) (by omega) (by omega) (by rw [ab_S1 _ h0, ← ha, hmm]; omega)
termination_by (bb_R (D 501) e 0 - j).toNat
decreasing_by all_goals omega

theorem ab_y139 {K : ab_Kt} {D : Nat → Int → Int} {L : Nat → Int → Int64} {z : ab_Z} {e : Int} (e0 : 0 ≤ e) (e1 : e < 6) (hI : ab_IR (D 501) e) : ab_cal K 139 [.ref 500, .int (ab_I e)] (ab_mk D L z) = some (.inl (some (.int (ab_I (ab_rmiss (D 501) e)))), (ab_mk D L z)) := by
  have hn := ab_IR_n hI
  simp (discharger := first | assumption | exact True.intro | exact not_false | (refine ab_gK ?_; with_unfolding_all rfl) | exact ab_rgI (by omega) (by omega) | omega) only [ab_a139, ab_e139_0, ab_e139_1, ab_e139_2, ab_e139_3, ab_e139_5, ab_e139_6, ab_e139_7, ab_e139_8, ab_e139_11, ab_e139_14, ab_e139_15, ab_e139_16, ab_e139_17, ab_e139_18, ab_e139_21, ab_e139_24, ab_e139_25, ab_e139_28, ab_e139_29, ab_e139_30, ab_e139_31, ab_e139_34, ab_e139_37, ab_e139_38, ab_br_t, ab_br_f, ab_re_v (ab_zz _), ab_re_n (ab_zz _)]
  exact ab_l139 e0 e1 hI 0 1 0 (by omega) (by omega) rfl rfl

def ab_rri (g : Int → Int) (e s : Int) : Int :=
  if bb_R g e (7 + 3 * s + 2) = 0 then (if bb_R g e (7 + 3 * s + 0) = ab_S (ab_rsz g e) s + 1 then max 0 (ab_rsz g e s - max 0 (ab_S (ab_rsz g e) s + ab_rsz g e s - bb_R g e 0)) else 0)
  else if 0 ≤ bb_R g e (7 + 3 * s + 0) + ab_rsz g e s - 2 - ab_S (ab_rsz g e) s ∧ (bb_R g e (7 + 3 * s + 0) + ab_rsz g e s - 2 - ab_S (ab_rsz g e) s) % 2 = 0 ∧ (bb_R g e (7 + 3 * s + 0) + ab_rsz g e s - 2 - ab_S (ab_rsz g e) s) / 2 ≤ ab_rsz g e s - 1 ∧ ab_S (ab_rsz g e) s + (bb_R g e (7 + 3 * s + 0) + ab_rsz g e s - 2 - ab_S (ab_rsz g e) s) / 2 < bb_R g e 0 then 1 else 0
