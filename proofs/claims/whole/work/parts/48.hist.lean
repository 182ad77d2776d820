/-! ===== answers of changes are not negative ===== -/
section
variable {c : Int} {g g' : Int → Int} {v : Int}
def bb_vr (v : Int) : Prop := 0 ≤ v ∧ v < 1000000000
theorem bb_v_book (hw : bb_WS c g) {p q : Int} (h : bb_sp_book g p q = .inr (v, g')) : bb_vr v := by
  have n := bb_WS_n hw
  unfold bb_sp_book at h
  split at h
  · exact absurd h Sum.inl_ne_inr
  · split at h
    · exact absurd h Sum.inl_ne_inr
    · have hv := (Prod.mk.inj (Sum.inr.inj h)).1
      unfold bb_vr; omega
theorem bb_v_gather (hw : bb_WS c g) {b f fo t : Int} (h : bb_sp_gather g b f fo t = .inr (v, g')) : bb_vr v := by
  have n := bb_WS_n hw
  unfold bb_sp_gather at h
  split at h
  · exact absurd h Sum.inl_ne_inr
  · rename_i hh
    have hm := bb_held_n hh
    have hb := bb_WB_n (bb_WS_W hw hm.1.1 hm.1.2)
    split at h
    · exact absurd h Sum.inl_ne_inr
    · split at h
      · exact absurd h Sum.inl_ne_inr
      · have hv := (Prod.mk.inj (Sum.inr.inj h)).1
        unfold bb_vr; omega
theorem bb_v_move (hw : bb_WS c g) {b p t : Int} (h : bb_sp_move g b p t = .inr (v, g')) : bb_vr v := by
  have n := bb_WS_n hw
  unfold bb_sp_move at h
  split at h
  · exact absurd h Sum.inl_ne_inr
  · rename_i hh
    have hm := bb_held_n hh
    have hb := bb_WB_n (bb_WS_W hw hm.1.1 hm.1.2)
    split at h
    · exact absurd h Sum.inl_ne_inr
    · rename_i h1
      split at h
      · exact absurd h Sum.inl_ne_inr
      · rename_i h2
        have hv := (Prod.mk.inj (Sum.inr.inj h)).1
        have h1 := Decidable.not_not.mp h1
        have h2 := Decidable.not_not.mp h2
        have hI : ab_IR (bb_mv g b p t) b := bb_WB_IR (bb_WB_mv (bb_WS_W hw hm.1.1 hm.1.2) h1.1 h1.2 h2.1 h2.2) (by omega)
        have r1 := ab_rwrong_rg hI
        have r2 := ab_rall_rg hI
        unfold bb_vr; omega
theorem bb_v_drop (hw : bb_WS c g) {b p : Int} (h : bb_sp_drop g b p = .inr (v, g')) : bb_vr v := by
  have n := bb_WS_n hw
  unfold bb_sp_drop at h
  split at h
  · exact absurd h Sum.inl_ne_inr
  · rename_i hh
    have hm := bb_held_n hh
    have hb := bb_WB_n (bb_WS_W hw hm.1.1 hm.1.2)
    split at h
    · exact absurd h Sum.inl_ne_inr
    · rename_i h1
      have h1 := Decidable.not_not.mp h1
      have hv := (Prod.mk.inj (Sum.inr.inj h)).1
      unfold bb_vr; omega
theorem bb_v_spool (hw : bb_WS c g) {l : Int} (h : bb_sp_spool g l = .inr (v, g')) : bb_vr v := by
  have n := bb_WS_n hw
  unfold bb_sp_spool at h
  split at h
  · exact absurd h Sum.inl_ne_inr
  · rename_i h1
    have hv := (Prod.mk.inj (Sum.inr.inj h)).1
    unfold bb_sv2 at hv
    unfold bb_vr; omega
theorem bb_v_sew (hw : bb_WS c g) {b : Int} (h : bb_sp_sew g b = .inr (v, g')) : bb_vr v := by
  have n := bb_WS_n hw
  unfold bb_sp_sew at h
  split at h
  · exact absurd h Sum.inl_ne_inr
  · rename_i hh
    have hm := bb_at_n hh
    have hb := bb_WB_n (bb_WS_W hw hm.1.1 hm.1.2)
    split at h
    · exact absurd h Sum.inl_ne_inr
    · split at h
      · exact absurd h Sum.inl_ne_inr
      · have hv := (Prod.mk.inj (Sum.inr.inj h)).1
        have hth := bb_rth_rg hw hm.1.1 hm.1.2 (s := bb_R g b 4) (by omega) (by omega)
        unfold bb_vr; omega
theorem bb_v_unpick (hw : bb_WS c g) {b : Int} (h : bb_sp_unpick g b = .inr (v, g')) : bb_vr v := by
  have n := bb_WS_n hw
  unfold bb_sp_unpick at h
  split at h
  · exact absurd h Sum.inl_ne_inr
  · rename_i hh
    have hm := bb_at_n hh
    have hb := bb_WB_n (bb_WS_W hw hm.1.1 hm.1.2)
    split at h
    · exact absurd h Sum.inl_ne_inr
    · have hv := (Prod.mk.inj (Sum.inr.inj h)).1
      unfold bb_vr; omega
theorem bb_v_glue (hw : bb_WS c g) {b q : Int} (h : bb_sp_glue g b q = .inr (v, g')) : bb_vr v := by
  have n := bb_WS_n hw
  unfold bb_sp_glue at h
  split at h
  · exact absurd h Sum.inl_ne_inr
  · split at h
    · exact absurd h Sum.inl_ne_inr
    · split at h
      · exact absurd h Sum.inl_ne_inr
      · split at h
        · exact absurd h Sum.inl_ne_inr
        · split at h
          · exact absurd h Sum.inl_ne_inr
          · have hv := (Prod.mk.inj (Sum.inr.inj h)).1
            have hs := bb_set_rg (q := q)
            unfold bb_vr; omega
theorem bb_v_press (hw : bb_WS c g) {b p : Int} (h : bb_sp_press g b p = .inr (v, g')) : bb_vr v := by
  have n := bb_WS_n hw
  unfold bb_sp_press at h
  split at h
  · exact absurd h Sum.inl_ne_inr
  · split at h
    · exact absurd h Sum.inl_ne_inr
    · rename_i hq
      split at h
      · exact absurd h Sum.inl_ne_inr
      · split at h
        · exact absurd h Sum.inl_ne_inr
        · have hv := (Prod.mk.inj (Sum.inr.inj h)).1
          have hq := Decidable.not_not.mp hq
          have := hw.2.2.2.2.2.2.1 p hq.1 (by omega)
          unfold bb_vr; omega
theorem bb_v_lift (hw : bb_WS c g) {p : Int} (h : bb_sp_lift g p = .inr (v, g')) : bb_vr v := by
  have n := bb_WS_n hw
  unfold bb_sp_lift at h
  split at h
  · exact absurd h Sum.inl_ne_inr
  · rename_i hq
    split at h
    · exact absurd h Sum.inl_ne_inr
    · split at h
      · exact absurd h Sum.inl_ne_inr
      · have hv := (Prod.mk.inj (Sum.inr.inj h)).1
        have hq := Decidable.not_not.mp hq
        have hg := hw.2.2.2.2.2.2.1 p hq.1 (by omega)
        have ht := hw.2.2.2.2.2.2.2.1 p (g (8 + 4 * p) - 1) hq.1 (by omega) (by omega) (by omega)
        have ht : (0 ≤ bb_top g p ∧ bb_top g p < g 3) ∧ bb_R g (bb_top g p) 2 = 2 := ht
        unfold bb_vr; omega
theorem bb_v_slip (hw : bb_WS c g) {b p : Int} (h : bb_sp_slip g b p = .inr (v, g')) : bb_vr v := by
  have n := bb_WS_n hw
  unfold bb_sp_slip at h
  split at h
  · exact absurd h Sum.inl_ne_inr
  · rename_i hh
    have hm := bb_at_n hh
    have hb := bb_WB_n (bb_WS_W hw hm.1.1 hm.1.2)
    split at h
    · exact absurd h Sum.inl_ne_inr
    · split at h
      · exact absurd h Sum.inl_ne_inr
      · have hv := (Prod.mk.inj (Sum.inr.inj h)).1
        have hs := bb_slS_rg (bb_gs g b p) b (n := 192) (by omega)
        unfold bb_vr; omega
theorem bb_v_deliver (hw : bb_WS c g) {b : Int} (h : bb_sp_deliver g b = .inr (v, g')) : bb_vr v := by
  have n := bb_WS_n hw
  unfold bb_sp_deliver at h
  split at h
  · exact absurd h Sum.inl_ne_inr
  · rename_i hh
    have hm := bb_at_n hh
    have hb := bb_WB_n (bb_WS_W hw hm.1.1 hm.1.2)
    split at h
    · exact absurd h Sum.inl_ne_inr
    · split at h
      · exact absurd h Sum.inl_ne_inr
      · have hv := (Prod.mk.inj (Sum.inr.inj h)).1
        have hI := bb_WS_IR hw hm.1.1 hm.1.2
        have r1 := ab_rwrong_rg hI
        have r2 := ab_rall_rg hI
        unfold bb_br at hv
        unfold bb_vr; omega
theorem bb_mN_rg (h : Int → Int) : ∀ k : Nat, 0 ≤ (bb_mN h k).1 ∧ (bb_mN h k).1 ≤ k
  | 0 => ⟨Int.le_refl _, Int.le_refl _⟩
  | k + 1 => by
    have ih := bb_mN_rg h k
    have e : (bb_mN h (k + 1)).1 = (bb_mN h k).1 + bb_mc (bb_mN h k).2 k := rfl
    have : 0 ≤ bb_mc (bb_mN h k).2 k ∧ bb_mc (bb_mN h k).2 k ≤ 1 := by unfold bb_mc; split <;> omega
    omega
theorem bb_pN_rg (hw : bb_WS c g) : ∀ k : Nat, c + k ≤ 50000000 → 0 ≤ (bb_pN g k).1 ∧ (bb_pN g k).1 ≤ 6 * k
  | 0, _ => ⟨Int.le_refl _, Int.le_refl _⟩
  | k + 1, hk => by
    have ih := bb_pN_rg hw k (by omega)
    have e : (bb_pN g (k + 1)).1 = (bb_pN g k).1 + (bb_m1 (bb_pN g k).2).1 := rfl
    have i1 := (bb_W_pN hw k (by omega)).1
    have n := bb_WS_n i1
    have : 0 ≤ (bb_m1 (bb_pN g k).2).1 ∧ (bb_m1 (bb_pN g k).2).1 ≤ (((bb_pN g k).2 3).toNat : Nat) := bb_mN_rg _ _
    omega
theorem bb_v_pass (hw : bb_WS c g) {m : Int} (hc : c + 1200 ≤ 50000000) (h : bb_sp_pass g m = .inr (v, g')) : bb_vr v := by
  have n := bb_WS_n hw
  unfold bb_sp_pass at h
  split at h
  · exact absurd h Sum.inl_ne_inr
  · rename_i h1
    have hv := (Prod.mk.inj (Sum.inr.inj (h.trans (by rfl) : (Sum.inr ((bb_pN g m.toNat).1, (bb_pN g m.toNat).2) : bb_O) = Sum.inr (v, g')))).1
    have h1 := Decidable.not_not.mp h1
    have := bb_pN_rg hw m.toNat (by omega)
    unfold bb_vr; omega
end
/-! ===== the history ===== -/
/-- the shop holds g; m rows F are kept -/
def bb_CH (D : Nat → Int → Int) (L : Nat → Int → Int64) (g : Int → Int) (F : Int → Int → Int) (m : Int) : Prop := bb_KS D L 19 g ∧ (0 ≤ D 62 1 ∧ D 62 1 < 9) ∧ D 62 2 = m ∧ (0 ≤ m ∧ m ≤ 8) ∧ ∀ j, 0 ≤ j → j < m → bb_KS D L (ab_sI ((D 62 1 - m + j) % 9)) (F j)
theorem bb_sI_e (e : Int) : ab_sI e = 64 + 43 * e.toNat := rfl
theorem bb_KS_fr {D D' : Nat → Int → Int} {L L' : Nat → Int → Int64} {s : Nat} {c : Int} {g : Int → Int} (hw : bb_WS c g) (hD : ∀ i, s ≤ i → i < s + 43 → D' i = D i ∧ L' i = L i) (hk : bb_KS D L s g) : bb_KS D' L' s g := bb_KS_congr (fun _ _ _ => rfl) hw hD hk
/-- what is kept behind a change -/
def bb_F1 (g : Int → Int) (F : Int → Int → Int) (m : Int) : Int → Int → Int := fun j => if m = 8 then (if j < 7 then F (j + 1) else g) else if j < m then F j else g
def bb_m1k (m : Int) : Int := if m = 8 then 8 else m + 1
section
variable {K : ab_Kt} {D : Nat → Int → Int} {L : Nat → Int → Int64} {z : ab_Z} {c : Int} {g : Int → Int} {F : Int → Int → Int} {m : Int}
theorem bb_CH_fr {D' : Nat → Int → Int} {L' : Nat → Int → Int64} (hw : bb_WS c g) (hF : ∀ j, 0 ≤ j → j < m → bb_WS c (F j)) (h : bb_CH D L g F m) (hD : ∀ i, 19 ≤ i → i < 451 → i ≠ 63 → D' i = D i ∧ L' i = L i) : bb_CH D' L' g F m := by
  obtain ⟨h1, h2, h3, h4, h5⟩ := h
  have e := (hD 62 (by omega) (by omega) (by omega)).1
  refine ⟨bb_KS_fr hw (fun i a d => hD i (by omega) (by omega) (by omega)) h1, by rw [e]; exact h2, by rw [e]; exact h3, h4, fun j j0 j1 => ?_⟩
  have es := bb_sI_e ((D 62 1 - m + j) % 9)
  rw [e]
  exact bb_KS_fr (hF j j0 j1) (fun i a d => hD i (by omega) (by omega) (by omega)) (h5 j j0 j1)
theorem bb_y192 (hw : bb_WS c g) (hF : ∀ j, 0 ≤ j → j < m → bb_WS c (F j)) (h : bb_CH D L g F m) : ∃ D1 L1, ab_cal K 192 [.ref 62, .ref 19] (ab_mk D L z) = some (.inl none, ab_mk D1 L1 z) ∧ bb_CH D1 L1 g F m ∧ bb_KS D1 L1 (ab_sI (D1 62 1)) g ∧ ∀ i, (i < 64 ∨ 451 ≤ i) → D1 i = D i ∧ L1 i = L i := by
  obtain ⟨h1, h2, h3, h4, h5⟩ := h
  have es := bb_sI_e (D 62 1)
  have hsp := ab_sp0
  have hsi := ab_sp_sI h2.1 h2.2
  obtain ⟨D1, L1, a1, a2, a3⟩ := bb_y94 (K := K) (D := D) (L := L) (z := z) (ab_sp_sI h2.1 h2.2) ab_sp0 (by omega) h1.2.2.1
  have e62 : D1 62 = D 62 := (a3 62 (by omega)).1
  refine ⟨D1, L1, ?_, ⟨bb_KS_fr hw (fun i a d => a3 i (by omega)) h1, by rw [e62]; exact h2, by rw [e62]; exact h3, h4, fun j j0 j1 => ?_⟩, by rw [e62]; exact bb_ES_KS a2 hw h1, fun i hi => a3 i (by omega)⟩
  · simp (discharger := first | assumption | exact True.intro | exact not_false | (refine ab_gK ?_; with_unfolding_all rfl) | exact ab_rgI (by omega) (by omega) | omega) only [ab_a192, a1, ab_e192_0, ab_e192_1, ab_e192_4, ab_e192_5, ab_e192_8, ab_e192_9, ab_e192_10, ab_e192_13, ab_br_t, ab_br_f, ab_re_v (ab_zz _), ab_re_n (ab_zz _)]
  · have ej := bb_sI_e ((D 62 1 - m + j) % 9)
    rw [e62]
    exact bb_KS_fr (hF j j0 j1) (fun i a d => a3 i (by omega)) (h5 j j0 j1)
theorem bb_y194 (hw : bb_WS c g) {g0 : Int → Int} (hw0 : bb_WS c g0) (hF : ∀ j, 0 ≤ j → j < m → bb_WS c (F j)) (h : bb_CH D L g F m) (hk0 : bb_KS D L (ab_sI (D 62 1)) g0) : ∃ D1 L1, ab_cal K 194 [.ref 62, .ref 19] (ab_mk D L z) = some (.inl none, ab_mk D1 L1 z) ∧ bb_CH D1 L1 g0 F m ∧ ∀ i, (i < 19 ∨ 62 ≤ i) → D1 i = D i ∧ L1 i = L i := by
  obtain ⟨h1, h2, h3, h4, h5⟩ := h
  have es := bb_sI_e (D 62 1)
  have hsp := ab_sp0
  obtain ⟨D1, L1, a1, a2, a3⟩ := bb_y94 (K := K) (D := D) (L := L) (z := z) ab_sp0 (ab_sp_sI h2.1 h2.2) (by omega) hk0.2.2.1
  have e62 : D1 62 = D 62 := (a3 62 (by omega)).1
  refine ⟨D1, L1, ?_, ⟨bb_ES_KS a2 hw0 hk0, by rw [e62]; exact h2, by rw [e62]; exact h3, h4, fun j j0 j1 => ?_⟩, fun i hi => a3 i (by omega)⟩
  · simp (discharger := first | assumption | exact True.intro | exact not_false | (refine ab_gK ?_; with_unfolding_all rfl) | exact ab_rgI (by omega) (by omega) | omega) only [ab_a194, a1, ab_e194_0, ab_e194_1, ab_e194_2, ab_e194_5, ab_e194_6, ab_e194_9, ab_e194_10, ab_e194_13, ab_br_t, ab_br_f, ab_re_v (ab_zz _), ab_re_n (ab_zz _)]
  · have ej := bb_sI_e ((D 62 1 - m + j) % 9)
    rw [e62]
    exact bb_KS_fr (hF j j0 j1) (fun i a d => a3 i (by omega)) (h5 j j0 j1)
theorem bb_y244 (hw : bb_WS c g) {g0 : Int → Int} (hw0 : bb_WS c g0) (hF : ∀ j, 0 ≤ j → j < m → bb_WS c (F j)) (h : bb_CH D L g F m) (hk0 : bb_KS D L (ab_sI (D 62 1)) g0) : ∃ D1, ab_cal K 244 [.ref 62] (ab_mk D L z) = some (.inl none, ab_mk D1 L z) ∧ bb_CH D1 L g (bb_F1 g0 F m) (bb_m1k m) ∧ ∀ i, i ≠ 62 → D1 i = D i := by
  obtain ⟨h1, h2, h3, h4, h5⟩ := h
  have mk : bb_m1k m = min (D 62 2 + 1) 8 := by unfold bb_m1k; omega
  have fin : ∀ nx : Int, 0 ≤ nx → nx < 9 → (nx = D 62 1 + 1 ∨ (nx = 0 ∧ D 62 1 = 8)) → bb_CH (ab_u (ab_u D 62 1 nx) 62 2 (min (D 62 2 + 1) 8)) L g (bb_F1 g0 F m) (bb_m1k m) := fun nx n0 n1 hn => by
    have hrow : ∀ i, i ≠ 62 → ab_u (ab_u D 62 1 nx) 62 2 (min (D 62 2 + 1) 8) i = D i := fun i hi => by rw [ab_u_row hi, ab_u_row hi]
    have e1 : ab_u (ab_u D 62 1 nx) 62 2 (min (D 62 2 + 1) 8) 62 1 = nx := by rw [ab_u_ne (.inr (by decide)), ab_u_eq]
    have e2 : ab_u (ab_u D 62 1 nx) 62 2 (min (D 62 2 + 1) 8) 62 2 = bb_m1k m := by rw [ab_u_eq, mk]
    refine ⟨bb_KS_fr hw (fun i a d => ⟨hrow i (by omega), rfl⟩) h1, by rw [e1]; exact ⟨n0, n1⟩, e2, by unfold bb_m1k; omega, fun j j0 j1 => ?_⟩
    rw [e1]
    have ej := bb_sI_e ((nx - bb_m1k m + j) % 9)
    have hfr : ∀ i, ab_sI ((nx - bb_m1k m + j) % 9) ≤ i → i < ab_sI ((nx - bb_m1k m + j) % 9) + 43 → ab_u (ab_u D 62 1 nx) 62 2 (min (D 62 2 + 1) 8) i = D i ∧ L i = L i := fun i a d => ⟨hrow i (by omega), rfl⟩
    unfold bb_F1
    by_cases h8 : m = 8
    · rw [if_pos h8]
      have m8 : bb_m1k m = 8 := if_pos h8
      rw [m8] at j1 hfr ⊢
      by_cases j7 : j < 7
      · rw [if_pos j7]
        have e9 : (nx - 8 + j) % 9 = (D 62 1 - m + (j + 1)) % 9 := by omega
        rw [e9] at hfr ⊢
        exact bb_KS_fr (hF (j + 1) (by omega) (by omega)) hfr (h5 (j + 1) (by omega) (by omega))
      · rw [if_neg j7]
        have e9 : (nx - 8 + j) % 9 = D 62 1 := by omega
        rw [e9] at hfr ⊢
        exact bb_KS_fr hw0 hfr hk0
    · rw [if_neg h8]
      have m8 : bb_m1k m = m + 1 := if_neg h8
      rw [m8] at j1 hfr ⊢
      by_cases jm : j < m
      · rw [if_pos jm]
        have e9 : (nx - (m + 1) + j) % 9 = (D 62 1 - m + j) % 9 := by omega
        rw [e9] at hfr ⊢
        exact bb_KS_fr (hF j j0 jm) hfr (h5 j j0 jm)
      · rw [if_neg jm]
        have e9 : (nx - (m + 1) + j) % 9 = D 62 1 := by omega
        rw [e9] at hfr ⊢
        exact bb_KS_fr hw0 hfr hk0
  by_cases h9 : D 62 1 + 1 < 9
  · refine ⟨_, ?_, fin (D 62 1 + 1) (by omega) (by omega) (.inl rfl), fun i hi => by rw [ab_u_row hi, ab_u_row hi]⟩
    simp (discharger := first | assumption | exact True.intro | exact not_false | (refine ab_gK ?_; with_unfolding_all rfl) | exact ab_rgI (by omega) (by omega) | omega) only [ab_a244, ab_u_ne, ab_e244_0, ab_e244_1, ab_e244_2, ab_e244_5, ab_e244_6, ab_e244_7, ab_e244_9, ab_e244_12, ab_e244_13, ab_e244_16, ab_e244_17, ab_e244_18, ab_e244_21, ab_e244_22, ab_e244_25, ab_e244_26, ab_e244_27, ab_e244_30, ab_e244_31, ab_e244_32, ab_e244_34, ab_e244_37, ab_e244_40, ab_br_t, ab_br_f, ab_re_v (ab_zz _), ab_re_n (ab_zz _)]
  · refine ⟨_, ?_, fin 0 (by omega) (by omega) (.inr ⟨rfl, by omega⟩), fun i hi => by rw [ab_u_row hi, ab_u_row hi]⟩
    simp (discharger := first | assumption | exact True.intro | exact not_false | (refine ab_gK ?_; with_unfolding_all rfl) | exact ab_rgI (by omega) (by omega) | omega) only [ab_a244, ab_u_ne, ab_e244_0, ab_e244_1, ab_e244_2, ab_e244_5, ab_e244_6, ab_e244_7, ab_e244_9, ab_e244_12, ab_e244_13, ab_e244_16, ab_e244_17, ab_e244_18, ab_e244_21, ab_e244_22, ab_e244_25, ab_e244_26, ab_e244_27, ab_e244_30, ab_e244_31, ab_e244_32, ab_e244_34, ab_e244_37, ab_e244_40, ab_br_t, ab_br_f, ab_re_v (ab_zz _), ab_re_n (ab_zz _)]

theorem bb_y179 (hw : bb_WS c g) (hF : ∀ j, 0 ≤ j → j < m → bb_WS c (F j)) (h : bb_CH D L g F m) (hm : 0 < m) : ∃ D1 L1, ab_cal K 179 [.ref 62, .ref 19] (ab_mk D L z) = some (.inl none, ab_mk D1 L1 z) ∧ bb_CH D1 L1 (F (m - 1)) F (m - 1) ∧ ∀ i, (i < 19 ∨ 63 ≤ i) → D1 i = D i ∧ L1 i = L i := by
  obtain ⟨h1, h2, h3, h4, h5⟩ := h
  have hsp := ab_sp0
  have main : ∀ nx : Int, 0 ≤ nx → nx < 9 → (nx = D 62 1 - 1 ∨ (nx = 8 ∧ D 62 1 = 0)) → ∃ D1 L1, ab_cal K 94 [.ref 19, .ref (ab_sI nx)] (ab_mk (ab_u (ab_u D 62 1 nx) 62 2 (D 62 2 - 1)) L z) = some (.inl none, ab_mk D1 L1 z) ∧ bb_CH D1 L1 (F (m - 1)) F (m - 1) ∧ ∀ i, (i < 19 ∨ 63 ≤ i) → D1 i = D i ∧ L1 i = L i := fun nx n0 n1 hn => by
    have hrow : ∀ i, i ≠ 62 → ab_u (ab_u D 62 1 nx) 62 2 (D 62 2 - 1) i = D i := fun i hi => by rw [ab_u_row hi, ab_u_row hi]
    have e1 : ab_u (ab_u D 62 1 nx) 62 2 (D 62 2 - 1) 62 1 = nx := by rw [ab_u_ne (.inr (by decide)), ab_u_eq]
    have e2 : ab_u (ab_u D 62 1 nx) 62 2 (D 62 2 - 1) 62 2 = D 62 2 - 1 := ab_u_eq
    have es := bb_sI_e nx
    have e9 : (D 62 1 - m + (m - 1)) % 9 = nx := by omega
    have hk := h5 (m - 1) (by omega) (by omega)
    rw [e9] at hk
    have hk2 : bb_KS (ab_u (ab_u D 62 1 nx) 62 2 (D 62 2 - 1)) L (ab_sI nx) (F (m - 1)) := bb_KS_fr (hF (m - 1) (by omega) (by omega)) (fun i a d => ⟨hrow i (by omega), rfl⟩) hk
    obtain ⟨D1, L1, a1, a2, a3⟩ := bb_y94 (K := K) (L := L) (z := z) ab_sp0 (ab_sp_sI n0 n1) (by omega) hk2.2.2.1
    have e62 : D1 62 = ab_u (ab_u D 62 1 nx) 62 2 (D 62 2 - 1) 62 := (a3 62 (by omega)).1
    refine ⟨D1, L1, a1, ⟨bb_ES_KS a2 (hF (m - 1) (by omega) (by omega)) hk2, by rw [e62, e1]; exact ⟨n0, n1⟩, by rw [e62, e2, h3], by omega, fun j j0 j1 => ?_⟩, fun i hi => ?_⟩
    · rw [e62, e1]
      have ej := bb_sI_e ((nx - (m - 1) + j) % 9)
      have e8 : (nx - (m - 1) + j) % 9 = (D 62 1 - m + j) % 9 := by omega
      rw [e8] at ej ⊢
      exact bb_KS_fr (hF j j0 (by omega)) (fun i a d => ⟨by rw [(a3 i (by omega)).1, hrow i (by omega)], (a3 i (by omega)).2⟩) (h5 j j0 (by omega))
    · refine ⟨?_, (a3 i (by omega)).2⟩
      rw [(a3 i (by omega)).1, hrow i (by omega)]
  by_cases h9 : 0 < D 62 1
  · obtain ⟨D1, L1, a1, a2, a3⟩ := main (D 62 1 - 1) (by omega) (by omega) (.inl rfl)
    refine ⟨D1, L1, ?_, a2, a3⟩
    simp (discharger := first | assumption | exact True.intro | exact not_false | (refine ab_gK ?_; with_unfolding_all rfl) | exact ab_rgI (by omega) (by omega) | omega) only [ab_a179, ab_u_ne, ab_u_eq, a1, ab_e179_0, ab_e179_1, ab_e179_2, ab_e179_5, ab_e179_8, ab_e179_9, ab_e179_12, ab_e179_13, ab_e179_14, ab_e179_17, ab_e179_19, ab_e179_22, ab_e179_23, ab_e179_24, ab_e179_27, ab_e179_28, ab_e179_29, ab_e179_32, ab_e179_33, ab_e179_34, ab_e179_37, ab_e179_38, ab_e179_41, ab_e179_42, ab_e179_45, ab_br_t, ab_br_f, ab_re_v (ab_zz _), ab_re_n (ab_zz _)]

  · obtain ⟨D1, L1, a1, a2, a3⟩ := main 8 (by omega) (by omega) (.inr ⟨rfl, by omega⟩)
    refine ⟨D1, L1, ?_, a2, a3⟩
    simp (discharger := first | assumption | exact True.intro | exact not_false | (refine ab_gK ?_; with_unfolding_all rfl) | exact ab_rgI (by omega) (by omega) | omega) only [ab_a179, ab_u_ne, ab_u_eq, a1, ab_e179_0, ab_e179_1, ab_e179_2, ab_e179_5, ab_e179_8, ab_e179_9, ab_e179_12, ab_e179_13, ab_e179_14, ab_e179_17, ab_e179_19, ab_e179_22, ab_e179_23, ab_e179_24, ab_e179_27, ab_e179_28, ab_e179_29, ab_e179_32, ab_e179_33, ab_e179_34, ab_e179_37, ab_e179_38, ab_e179_41, ab_e179_42, ab_e179_45, ab_br_t, ab_br_f, ab_re_v (ab_zz _), ab_re_n (ab_zz _)]


theorem bb_y176 : ab_cal K 176 [.ref 62] (ab_mk D L z) = some (.inl none, ab_mk (ab_u D 62 2 0) L z) := by
  simp (discharger := first | assumption | exact True.intro | exact not_false | (refine ab_gK ?_; with_unfolding_all rfl) | exact ab_rgI (by omega) (by omega) | omega) only [ab_a176, ab_e176_0, ab_e176_1, ab_e176_2, ab_e176_5, ab_br_t, ab_br_f, ab_re_v (ab_zz _), ab_re_n (ab_zz _)]

theorem bb_y195t : ab_cal K 195 [.ref 17, .int (ab_I (-1))] (ab_mk D L z) = some (.inr "java/lang/UnsupportedOperationException", ab_mk D L (ab_zx z)) := by
  simp (discharger := first | assumption | exact True.intro | exact not_false | (refine ab_gK ?_; with_unfolding_all rfl) | exact ab_rgI (by omega) (by omega) | omega) only [ab_a195, ab_e195_0, ab_e195_1, ab_e195_2, ab_e195_5, ab_e195_13, ab_e195_14, ab_e195_17, ab_e195_20, ab_e195_21, ab_br_t, ab_br_f, ab_re_v (ab_zz _), ab_re_n (ab_zz _)]

theorem bb_y195 (hw : bb_WS c g) {g0 : Int → Int} (hw0 : bb_WS c g0) (hF : ∀ j, 0 ≤ j → j < m → bb_WS c (F j)) (h : bb_CH D L g F m) (hk0 : bb_KS D L (ab_sI (D 62 1)) g0) {v : Int} (hv : bb_vr v) : ∃ D1, ab_cal K 195 [.ref 17, .int (ab_I v)] (ab_mk D L z) = some (.inl (some (.int (ab_I v))), ab_mk D1 L z) ∧ bb_CH D1 L g (bb_F1 g0 F m) (bb_m1k m) ∧ ∀ i, i ≠ 62 → D1 i = D i := by
  obtain ⟨D1, a1, a2, a3⟩ := bb_y244 (K := K) (z := z) hw hw0 hF h hk0
  unfold bb_vr at hv
  refine ⟨D1, ?_, a2, a3⟩
  simp (discharger := first | assumption | exact True.intro | exact not_false | (refine ab_gK ?_; with_unfolding_all rfl) | exact ab_rgI (by omega) (by omega) | omega) only [ab_a195, a1, ab_e195_0, ab_e195_1, ab_e195_2, ab_e195_5, ab_e195_13, ab_e195_14, ab_e195_17, ab_e195_20, ab_e195_21, ab_br_t, ab_br_f, ab_re_v (ab_zz _), ab_re_n (ab_zz _)]

end
