/-! ===== the rows behind stay rows: each change ===== -/
theorem bb_WB_f {g g' : Int → Int} {e mn mn' : Int} (h : bb_WB g e mn) (ho : ∀ w, 0 ≤ w → w < 51 → w ≠ 2 → w ≠ 4 → w ≠ 5 → w ≠ 6 → bb_R g' e w = bb_R g e w) (h2 : 0 ≤ bb_R g' e 2 ∧ bb_R g' e 2 ≤ 4) (h4 : 0 ≤ bb_R g' e 4 ∧ bb_R g' e 4 ≤ bb_R g e 3) (h5 : -1 ≤ bb_R g' e 5 ∧ bb_R g' e 5 ≤ 2) (h6 : 0 ≤ bb_R g' e 6 ∧ bb_R g' e 6 ≤ mn' + 30) (hi : bb_R g' e 2 = 0 ↔ bb_R g' e 5 = -1) : bb_WB g' e mn' := by
  have hn := bb_WB_n h
  refine ⟨?_, ?_, h2, ?_, ?_, h5, h6, hi, fun s s0 s1 => ?_, fun s s0 s1 => ?_, fun j j0 j1 => ?_⟩
  · rw [ho 0 (by omega) (by omega) (by omega) (by omega) (by omega) (by omega)]; exact hn.1
  · rw [ho 1 (by omega) (by omega) (by omega) (by omega) (by omega) (by omega)]; exact hn.2.1
  · rw [ho 3 (by omega) (by omega) (by omega) (by omega) (by omega) (by omega)]; exact hn.2.2.2.1
  · rw [ho 3 (by omega) (by omega) (by omega) (by omega) (by omega) (by omega)]; exact h4
  · rw [ho (7 + 3 * s + 0) (by omega) (by omega) (by omega) (by omega) (by omega) (by omega), ho (7 + 3 * s + 1) (by omega) (by omega) (by omega) (by omega) (by omega) (by omega), ho (7 + 3 * s + 2) (by omega) (by omega) (by omega) (by omega) (by omega) (by omega)]
    exact bb_WB_a h s0 s1
  · rw [ho 3 (by omega) (by omega) (by omega) (by omega) (by omega) (by omega)] at s1
    rw [ho (7 + 3 * s + 0) (by omega) (by omega) (by omega) (by omega) (by omega) (by omega), ho (7 + 3 * s + 1) (by omega) (by omega) (by omega) (by omega) (by omega) (by omega)]
    exact bb_WB_s h s0 s1
  · rw [ho (43 + j) (by omega) (by omega) (by omega) (by omega) (by omega) (by omega)]
    exact bb_WB_l h j0 j1
theorem bb_WB_gp {g : Int → Int} {e s f fo t mn : Int} (h : bb_WB g e mn) (s0 : 0 ≤ s) (s1 : s < 12) (hf : 0 ≤ f ∧ f ≤ 99) (hfo : 0 ≤ fo ∧ fo ≤ 3) (ht : t = 0 ∨ t = 1) (hl : s < bb_R g e 3 → 1 ≤ f ∧ 1 ≤ fo) : bb_WB (bb_gp g e s f fo t) e mn := by
  have hn := bb_WB_n h
  have hR : ∀ w, 0 ≤ w → w < 51 → (w < 7 + 3 * s ∨ 7 + 3 * s + 2 < w) → bb_R (bb_gp g e s f fo t) e w = bb_R g e w := fun w w0 w1 hw => bb_gp_R w0 w1 s0 s1 (.inr hw)
  have hA := bb_gp_at (g := g) (e := e) (s := s) (f := f) (fo := fo) (t := t)
  refine ⟨?_, ?_, ?_, ?_, ?_, ?_, ?_, ?_, fun q q0 q1 => ?_, fun q q0 q1 => ?_, fun j j0 j1 => ?_⟩
  · rw [hR 0 (by omega) (by omega) (by omega)]; exact hn.1
  · rw [hR 1 (by omega) (by omega) (by omega)]; exact hn.2.1
  · rw [hR 2 (by omega) (by omega) (by omega)]; exact hn.2.2.1
  · rw [hR 3 (by omega) (by omega) (by omega)]; exact hn.2.2.2.1
  · rw [hR 3 (by omega) (by omega) (by omega), hR 4 (by omega) (by omega) (by omega)]; exact hn.2.2.2.2.1
  · rw [hR 5 (by omega) (by omega) (by omega)]; exact hn.2.2.2.2.2.1
  · rw [hR 6 (by omega) (by omega) (by omega)]; exact hn.2.2.2.2.2.2.1
  · rw [hR 2 (by omega) (by omega) (by omega), hR 5 (by omega) (by omega) (by omega)]; exact hn.2.2.2.2.2.2.2
  · by_cases hq : q = s
    · subst hq
      rw [hA.1, hA.2.1, hA.2.2]
      exact ⟨hf, hfo, ht⟩
    · rw [hR _ (by omega) (by omega) (by omega), hR _ (by omega) (by omega) (by omega), hR _ (by omega) (by omega) (by omega)]
      exact bb_WB_a h q0 q1
  · rw [hR 3 (by omega) (by omega) (by omega)] at q1
    by_cases hq : q = s
    · subst hq
      rw [hA.1, hA.2.1]
      exact hl q1
    · rw [hR _ (by omega) (by omega) (by omega), hR _ (by omega) (by omega) (by omega)]
      exact bb_WB_s h q0 q1
  · rw [hR _ (by omega) (by omega) (by omega)]
    exact bb_WB_l h j0 j1
theorem bb_WB_n3 {g : Int → Int} {e v mn : Int} (h : bb_WB g e mn) (h0 : 0 ≤ v ∧ v ≤ 12) (h4 : bb_R g e 4 ≤ v) (hs : ∀ s, 0 ≤ s → s < v → 1 ≤ bb_R g e (7 + 3 * s + 0) ∧ 1 ≤ bb_R g e (7 + 3 * s + 1)) : bb_WB (bb_g1 g (16 + 51 * e + 3) v) e mn := by
  have hn := bb_WB_n h
  have hR : ∀ q, 0 ≤ q → q < 51 → bb_R (bb_g1 g (16 + 51 * e + 3) v) e q = if q = 3 then v else bb_R g e q := by
    intro q q0 q1
    rw [bb_R_g1 q0 q1 (by omega) (by omega)]
    by_cases hq : q = 3
    · rw [if_pos ⟨rfl, hq⟩, if_pos hq]
    · rw [if_neg (fun x => hq x.2), if_neg hq]
  refine ⟨?_, ?_, ?_, ?_, ?_, ?_, ?_, ?_, fun s s0 s1 => ?_, fun s s0 s1 => ?_, fun j j0 j1 => ?_⟩
  · rw [hR 0 (by omega) (by omega), if_neg (by omega)]; exact hn.1
  · rw [hR 1 (by omega) (by omega), if_neg (by omega)]; exact hn.2.1
  · rw [hR 2 (by omega) (by omega), if_neg (by omega)]; exact hn.2.2.1
  · rw [hR 3 (by omega) (by omega), if_pos rfl]; exact h0
  · rw [hR 4 (by omega) (by omega), hR 3 (by omega) (by omega), if_pos rfl, if_neg (by omega)]; omega
  · rw [hR 5 (by omega) (by omega), if_neg (by omega)]; exact hn.2.2.2.2.2.1
  · rw [hR 6 (by omega) (by omega), if_neg (by omega)]; exact hn.2.2.2.2.2.2.1
  · rw [hR 2 (by omega) (by omega), hR 5 (by omega) (by omega), if_neg (by omega), if_neg (by omega)]; exact hn.2.2.2.2.2.2.2
  · rw [hR _ (by omega) (by omega), hR _ (by omega) (by omega), hR _ (by omega) (by omega), if_neg (by omega), if_neg (by omega), if_neg (by omega)]
    exact bb_WB_a h s0 s1
  · rw [hR 3 (by omega) (by omega), if_pos rfl] at s1
    rw [hR _ (by omega) (by omega), hR _ (by omega) (by omega), if_neg (by omega), if_neg (by omega)]
    exact hs s s0 s1
  · rw [hR _ (by omega) (by omega), if_neg (by omega)]
    exact bb_WB_l h j0 j1
theorem bb_mv_s {g : Int → Int} {e p t s w : Int} (s0 : 0 ≤ s) (s1 : s < 12) (w0 : 0 ≤ w) (w1 : w < 3) : bb_R (bb_mv g e p t) e (7 + 3 * s + w) = bb_R g e (7 + 3 * bb_mvi p t s + w) := by
  unfold bb_R bb_mv
  rw [if_pos (by omega)]
  have e1 : (16 + 51 * e + (7 + 3 * s + w) - (16 + 51 * e + 7)) / 3 = s := by omega
  have e2 : (16 + 51 * e + (7 + 3 * s + w) - (16 + 51 * e + 7)) % 3 = w := by omega
  rw [e1, e2]
theorem bb_mv_ne {g : Int → Int} {e p t k : Int} (h : k < 16 + 51 * e + 7 ∨ 16 + 51 * e + 43 ≤ k) : bb_mv g e p t k = g k := if_neg (by omega)
theorem bb_mv_R {g : Int → Int} {e e' p t w : Int} (w0 : 0 ≤ w) (w1 : w < 51) (h : e ≠ e' ∨ w < 7 ∨ 43 ≤ w) : bb_R (bb_mv g e' p t) e w = bb_R g e w := bb_mv_ne (by omega)
theorem bb_WB_mv {g : Int → Int} {e p t mn : Int} (h : bb_WB g e mn) (p0 : 0 ≤ p) (p1 : p < bb_R g e 3) (t0 : 0 ≤ t) (t1 : t < bb_R g e 3) : bb_WB (bb_mv g e p t) e mn := by
  have hn := bb_WB_n h
  have hR : ∀ w, 0 ≤ w → w < 51 → (w < 7 ∨ 43 ≤ w) → bb_R (bb_mv g e p t) e w = bb_R g e w := fun w w0 w1 hw => bb_mv_R w0 w1 (.inr hw)
  refine ⟨?_, ?_, ?_, ?_, ?_, ?_, ?_, ?_, fun q q0 q1 => ?_, fun q q0 q1 => ?_, fun j j0 j1 => ?_⟩
  · rw [hR 0 (by omega) (by omega) (by omega)]; exact hn.1
  · rw [hR 1 (by omega) (by omega) (by omega)]; exact hn.2.1
  · rw [hR 2 (by omega) (by omega) (by omega)]; exact hn.2.2.1
  · rw [hR 3 (by omega) (by omega) (by omega)]; exact hn.2.2.2.1
  · rw [hR 3 (by omega) (by omega) (by omega), hR 4 (by omega) (by omega) (by omega)]; exact hn.2.2.2.2.1
  · rw [hR 5 (by omega) (by omega) (by omega)]; exact hn.2.2.2.2.2.1
  · rw [hR 6 (by omega) (by omega) (by omega)]; exact hn.2.2.2.2.2.2.1
  · rw [hR 2 (by omega) (by omega) (by omega), hR 5 (by omega) (by omega) (by omega)]; exact hn.2.2.2.2.2.2.2
  · have hm := bb_mvi_rg (n := 12) p0 (by omega) t0 (by omega) q0 q1
    rw [bb_mv_s q0 q1 (by omega) (by omega), bb_mv_s q0 q1 (by omega) (by omega), bb_mv_s q0 q1 (by omega) (by omega)]
    exact bb_WB_a h hm.1 hm.2
  · rw [hR 3 (by omega) (by omega) (by omega)] at q1
    have hm := bb_mvi_rg p0 p1 t0 t1 q0 q1
    rw [bb_mv_s q0 (by omega) (by omega) (by omega), bb_mv_s q0 (by omega) (by omega) (by omega)]
    exact bb_WB_s h hm.1 hm.2
  · rw [hR _ (by omega) (by omega) (by omega)]
    exact bb_WB_l h j0 j1
theorem bb_gp_g1 {g : Int → Int} {e s f fo t w v : Int} (s0 : 0 ≤ s) (hw : w < 7) : bb_gp (bb_g1 g (16 + 51 * e + w) v) e s f fo t = bb_g1 (bb_gp g e s f fo t) (16 + 51 * e + w) v := by
  funext k
  by_cases h : k < 16 + 51 * e + (7 + 3 * s) ∨ 16 + 51 * e + (7 + 3 * s + 2) < k
  · rw [bb_gp_ne h]
    unfold bb_g1
    rw [bb_gp_ne h]
  · rw [bb_g1_ne (g := bb_gp g e s f fo t) (by omega)]
    unfold bb_gp bb_g1
    by_cases h1 : k = 16 + 51 * e + (7 + 3 * s + 2)
    · rw [if_pos h1, if_pos h1]
    · rw [if_neg h1, if_neg h1]
      by_cases h2 : k = 16 + 51 * e + (7 + 3 * s + 1)
      · rw [if_pos h2, if_pos h2]
      · rw [if_neg h2, if_neg h2, if_pos (by omega), if_pos (by omega)]
section
variable {c : Int} {g g' : Int → Int} {v : Int}
theorem bb_WS_W (hw : bb_WS c g) {e : Int} (e0 : 0 ≤ e) (e1 : e < g 3) : bb_WB g e (g 0) := hw.2.2.2.2.2.1 e e0 e1
theorem bb_WS_n (hw : bb_WS c g) : (0 ≤ g 3 ∧ g 3 ≤ 6) ∧ (0 ≤ g 2 ∧ g 2 ≤ 999) ∧ (0 ≤ g 0 ∧ g 0 ≤ c) ∧ (0 ≤ g 1 ∧ g 1 ≤ c) ∧ c ≤ 50000000 := ⟨hw.1, hw.2.1, hw.2.2.1, hw.2.2.2.1, hw.2.2.2.2.1⟩
theorem bb_W_gather (hw : bb_WS c g) (hc : c + 1200 ≤ 50000000) {b f fo t : Int} (ht : t = 0 ∨ t = 1) (h : bb_sp_gather g b f fo t = .inr (v, g')) : bb_WS (c + 1200) g' := by
  have n := bb_WS_n hw
  unfold bb_sp_gather at h
  split at h
  · cases h
  · rename_i hh
    split at h
    · cases h
    · split at h
      · cases h
      · rename_i h1 h2
        cases h
        have hm := bb_held_n hh
        have hb := bb_WS_W hw hm.1.1 hm.1.2
        have hn := bb_WB_n hb
        have s0 := hn.2.2.2.1.1
        have s1 : bb_R g b 3 < 12 := by omega
        rw [bb_gp_g1 s0 (by omega)]
        have hA := bb_gp_at (g := g) (e := b) (s := bb_R g b 3) (f := f) (fo := fo) (t := t)
        have hw1 := bb_WB_gp hb s0 s1 (f := f) (fo := fo) (t := t) (by omega) (by omega) ht (fun x => by omega)
        have r4 : bb_R (bb_gp g b (bb_R g b 3) f fo t) b 4 = bb_R g b 4 := bb_gp_R (by omega) (by omega) s0 s1 (.inr (by omega))
        have hw2 := bb_WB_n3 (v := bb_R g b 3 + 1) hw1 (by omega) (by rw [r4]; omega) (fun s a d => by
          by_cases hs : s = bb_R g b 3
          · subst hs
            rw [hA.1, hA.2.1]; omega
          · rw [bb_gp_R (by omega) (by omega) s0 s1 (.inr (by omega)), bb_gp_R (by omega) (by omega) s0 s1 (.inr (by omega))]
            exact bb_WB_s hb a (by omega))
        have lo : ∀ k, k < 16 → bb_g1 (bb_gp g b (bb_R g b 3) f fo t) (16 + 51 * b + 3) (bb_R g b 3 + 1) k = g k := fun k hk => by
          rw [bb_g1_ne (by omega), bb_gp_ne (by omega)]
        refine bb_WS_book (e := b) hw (by omega) hc (fun k hk => (lo k (by omega)).symm) (lo 0 (by omega)) (by rw [lo 1 (by omega)]; omega) (by rw [lo 2 (by omega)]; omega) (fun e' a d he w w0 w1 => ?_) (by rw [lo 0 (by omega)]; exact hw2) ?_
        · rw [bb_R_g1 w0 w1 (by omega) (by omega), if_neg (fun x => he x.1), bb_gp_R w0 w1 s0 s1 (.inl he)]
        · rw [bb_R_g1 (by omega) (by omega) (by omega) (by omega), if_neg (by omega), bb_gp_R (by omega) (by omega) s0 s1 (.inr (by omega))]
theorem bb_W_move (hw : bb_WS c g) (hc : c + 1200 ≤ 50000000) {b p t : Int} (h : bb_sp_move g b p t = .inr (v, g')) : bb_WS (c + 1200) g' := by
  have n := bb_WS_n hw
  unfold bb_sp_move at h
  split at h
  · cases h
  · rename_i hh
    split at h
    · cases h
    · split at h
      · cases h
      · rename_i h1 h2
        cases h
        have hm := bb_held_n hh
        have hb := bb_WS_W hw hm.1.1 hm.1.2
        have h1 := Decidable.not_not.mp h1
        have h2 := Decidable.not_not.mp h2
        have hw1 := bb_WB_mv hb h1.1 h1.2 h2.1 h2.2
        have lo : ∀ k, k < 16 → bb_mv g b p t k = g k := fun k hk => bb_mv_ne (by omega)
        refine bb_WS_book (e := b) hw (by omega) hc (fun k hk => (lo k (by omega)).symm) (lo 0 (by omega)) (by rw [lo 1 (by omega)]; omega) (by rw [lo 2 (by omega)]; omega) (fun e' a d he w w0 w1 => ?_) (by rw [lo 0 (by omega)]; exact hw1) ?_
        · rw [bb_mv_R w0 w1 (.inl he)]
        · rw [bb_mv_R (by omega) (by omega) (.inr (by omega))]
theorem bb_W_drop (hw : bb_WS c g) (hc : c + 1200 ≤ 50000000) {b p : Int} (h : bb_sp_drop g b p = .inr (v, g')) : bb_WS (c + 1200) g' := by
  have n := bb_WS_n hw
  unfold bb_sp_drop at h
  split at h
  · cases h
  · rename_i hh
    split at h
    · cases h
    · rename_i h1
      cases h
      have hm := bb_held_n hh
      have hb := bb_WS_W hw hm.1.1 hm.1.2
      have hn := bb_WB_n hb
      have h1 := Decidable.not_not.mp h1
      have s0 : 0 ≤ bb_R g b 3 - 1 := by omega
      have s1 : bb_R g b 3 - 1 < 12 := by omega
      have hw1 := bb_WB_mv hb h1.1 h1.2 s0 (by omega)
      have hR : ∀ w, 0 ≤ w → w < 7 → bb_R (bb_gp (bb_mv g b p (bb_R g b 3 - 1)) b (bb_R g b 3 - 1) 0 0 0) b w = bb_R g b w := fun w w0 w1 => by
        rw [bb_gp_R w0 (by omega) s0 s1 (.inr (by omega)), bb_mv_R w0 (by omega) (.inr (by omega))]
      have r3 : bb_R (bb_mv g b p (bb_R g b 3 - 1)) b 3 = bb_R g b 3 := bb_mv_R (by omega) (by omega) (.inr (by omega))
      have hw3 : bb_WB (bb_g1 (bb_mv g b p (bb_R g b 3 - 1)) (16 + 51 * b + 3) (bb_R g b 3 - 1)) b (g 0) := bb_WB_n3 hw1 (by omega) (by rw [bb_mv_R (by omega) (by omega) (.inr (by omega)), hm.2.2]; omega) (fun s a d => bb_WB_s hw1 a (by omega))
      have hw4 := bb_WB_gp hw3 s0 s1 (f := 0) (fo := 0) (t := 0) (by omega) (by omega) (.inl rfl) (fun x => by rw [bb_R_g1 (by omega) (by omega) (by omega) (by omega), if_pos ⟨rfl, rfl⟩] at x; omega)
      rw [bb_gp_g1 s0 (by omega)] at hw4
      have lo : ∀ k, k < 16 → bb_g1 (bb_gp (bb_mv g b p (bb_R g b 3 - 1)) b (bb_R g b 3 - 1) 0 0 0) (16 + 51 * b + 3) (bb_R g b 3 - 1) k = g k := fun k hk => by
        rw [bb_g1_ne (by omega), bb_gp_ne (by omega), bb_mv_ne (by omega)]
      refine bb_WS_book (e := b) hw (by omega) hc (fun k hk => (lo k (by omega)).symm) (lo 0 (by omega)) (by rw [lo 1 (by omega)]; omega) (by rw [lo 2 (by omega)]; omega) (fun e' a d he w w0 w1 => ?_) (by rw [lo 0 (by omega)]; exact hw4) ?_
      · rw [bb_R_g1 w0 w1 (by omega) (by omega), if_neg (fun x => he x.1), bb_gp_R w0 w1 s0 s1 (.inl he), bb_mv_R w0 w1 (.inl he)]
      · rw [bb_R_g1 (by omega) (by omega) (by omega) (by omega), if_neg (by omega), hR 2 (by omega) (by omega)]
theorem bb_W_spool (hw : bb_WS c g) (hc : c + 1200 ≤ 50000000) {l : Int} (h : bb_sp_spool g l = .inr (v, g')) : bb_WS (c + 1200) g' := by
  have n := bb_WS_n hw
  unfold bb_sp_spool at h
  split at h
  · cases h
  · rename_i h1
    cases h
    have hv : 0 ≤ bb_sv2 g l ∧ bb_sv2 g l ≤ 999 := by unfold bb_sv2; omega
    refine ⟨by rw [bb_g1_ne (by omega)]; omega, by rw [bb_g1_eq]; exact hv, by rw [bb_g1_ne (by omega)]; omega, by rw [bb_g1_ne (by omega)]; omega, hc, fun e a d => ?_, bb_PW_congr (fun k hk => (bb_g1_ne (by omega)).symm) n.1 (fun e a d => (bb_R_lo a (by omega) (by omega)).symm) hw.2.2.2.2.2.2⟩
    rw [bb_g1_ne (by omega)] at d
    rw [bb_g1_ne (by omega)]
    exact bb_WB_lo a (by omega) (bb_WS_W hw a d) (Int.le_refl _)
theorem bb_rth_rg (hw : bb_WS c g) {e s : Int} (e0 : 0 ≤ e) (e1 : e < g 3) (s0 : 0 ≤ s) (s1 : s < 12) : 0 ≤ ab_rth g e s ∧ ab_rth g e s ≤ 30 := by
  have hb := bb_WS_W hw e0 e1
  have hn := bb_WB_n hb
  have ha := bb_WB_a hb s0 s1
  unfold ab_rth
  have h1 : bb_R g e 1 = 0 ∨ bb_R g e 1 = 1 ∨ bb_R g e 1 = 2 ∨ bb_R g e 1 = 3 ∨ bb_R g e 1 = 4 ∨ bb_R g e 1 = 5 := by omega
  rcases h1 with h1 | h1 | h1 | h1 | h1 | h1 <;> rw [h1] <;> omega
theorem bb_W_sew (hw : bb_WS c g) (hc : c + 1200 ≤ 50000000) {b : Int} (h : bb_sp_sew g b = .inr (v, g')) : bb_WS (c + 1200) g' := by
  have n := bb_WS_n hw
  unfold bb_sp_sew at h
  split at h
  · cases h
  · rename_i hh
    split at h
    · cases h
    · split at h
      · cases h
      · rename_i h1 h2
        cases h
        have hm := bb_at_n hh
        have hb := bb_WS_W hw hm.1.1 hm.1.2
        have hn := bb_WB_n hb
        have hr := bb_rth_rg hw hm.1.1 hm.1.2 (s := bb_R g b 4) (by omega) (by omega)
        have b0 := hm.1.1
        have R1 : ∀ e w, 0 ≤ e → 0 ≤ w → bb_R (bb_g1 (bb_g1 g 2 (g 2 - ab_rth g b (bb_R g b 4))) 4 (g 4 + ab_rth g b (bb_R g b 4))) e w = bb_R g e w := fun e w e0 w0 => by
          rw [bb_R_lo e0 w0 (by omega), bb_R_lo e0 w0 (by omega)]
        have hw1 := bb_WB_lo (k := 4) (v := g 4 + ab_rth g b (bb_R g b 4)) b0 (by omega) (bb_WB_lo (k := 2) (v := g 2 - ab_rth g b (bb_R g b 4)) b0 (by omega) hb (Int.le_refl _)) (Int.le_refl _)
        have hw2 := bb_WB_g1 (w := 4) (v := bb_R g b 4 + 1) (by omega) (by omega) hw1 (Int.le_refl _) (.inl ⟨rfl, by omega, by rw [R1 b 3 b0 (by omega)]; omega⟩)
        have lo : ∀ k, k < 16 → k ≠ 2 → k ≠ 4 → bb_g1 (bb_g1 (bb_g1 g 2 (g 2 - ab_rth g b (bb_R g b 4))) 4 (g 4 + ab_rth g b (bb_R g b 4))) (16 + 51 * b + 4) (bb_R g b 4 + 1) k = g k := fun k hk k2 k4 => by
          rw [bb_g1_ne (by omega), bb_g1_ne k4, bb_g1_ne k2]
        refine bb_WS_book (e := b) hw (by omega) hc (fun k hk => (lo k (by omega) (by omega) (by omega)).symm) (lo 0 (by omega) (by omega) (by omega)) (by rw [lo 1 (by omega) (by omega) (by omega)]; omega) (by rw [bb_g1_ne (by omega), bb_g1_ne (by omega), bb_g1_eq]; omega) (fun e' a d he w w0 w1 => ?_) (by rw [lo 0 (by omega) (by omega) (by omega)]; exact hw2) ?_
        · rw [bb_R_g1 w0 w1 (by omega) (by omega), if_neg (fun x => he x.1), R1 e' w a w0]
        · rw [bb_R_g1 (by omega) (by omega) (by omega) (by omega), if_neg (by omega), R1 b 2 b0 (by omega)]
theorem bb_W_unpick (hw : bb_WS c g) (hc : c + 1200 ≤ 50000000) {b : Int} (h : bb_sp_unpick g b = .inr (v, g')) : bb_WS (c + 1200) g' := by
  have n := bb_WS_n hw
  unfold bb_sp_unpick at h
  split at h
  · cases h
  · rename_i hh
    split at h
    · cases h
    · rename_i h1
      cases h
      have hm := bb_at_n hh
      have hb := bb_WS_W hw hm.1.1 hm.1.2
      have hn := bb_WB_n hb
      have b0 := hm.1.1
      have hw2 := bb_WB_lo (k := 5) (v := g 5 + 1) b0 (by omega) (bb_WB_g1 (w := 4) (v := bb_R g b 4 - 1) (by omega) (by omega) hb (Int.le_refl _) (.inl ⟨rfl, by omega, by omega⟩)) (Int.le_refl _)
      have lo : ∀ k, k < 16 → k ≠ 5 → bb_g1 (bb_g1 g (16 + 51 * b + 4) (bb_R g b 4 - 1)) 5 (g 5 + 1) k = g k := fun k hk k2 => by
        rw [bb_g1_ne k2, bb_g1_ne (by omega)]
      refine bb_WS_book (e := b) hw (by omega) hc (fun k hk => (lo k (by omega) (by omega)).symm) (lo 0 (by omega) (by omega)) (by rw [lo 1 (by omega) (by omega)]; omega) (by rw [lo 2 (by omega) (by omega)]; omega) (fun e' a d he w w0 w1 => ?_) (by rw [lo 0 (by omega) (by omega)]; exact hw2) ?_
      · rw [bb_R_lo a w0 (by omega), bb_R_g1 w0 w1 (by omega) (by omega), if_neg (fun x => he x.1)]
      · rw [bb_R_lo b0 (by omega) (by omega), bb_R_g1 (by omega) (by omega) (by omega) (by omega), if_neg (by omega)]
theorem bb_set_rg {q : Int} : 8 ≤ bb_set q ∧ bb_set q ≤ 30 := by unfold bb_set; omega
theorem bb_W_glue (hw : bb_WS c g) (hc : c + 1200 ≤ 50000000) {b q : Int} (h : bb_sp_glue g b q = .inr (v, g')) : bb_WS (c + 1200) g' := by
  have n := bb_WS_n hw
  unfold bb_sp_glue at h
  split at h
  · cases h
  · split at h
    · cases h
    · split at h
      · cases h
      · rename_i hx hq _ hh
        split at h
        · cases h
        · split at h
          · cases h
          · rename_i h1 h2
            cases h
            have hm := bb_at_n hh
            have hq := Decidable.not_not.mp hq
            have hb := bb_WS_W hw hm.1.1 hm.1.2
            have hn := bb_WB_n hb
            have b0 := hm.1.1
            have hs := bb_set_rg (q := q)
            have hR : ∀ e w, 0 ≤ w → w < 51 → bb_R (bb_g1 (bb_g1 (bb_g1 g (16 + 51 * b + 2) 1) (16 + 51 * b + 5) q) (16 + 51 * b + 6) (g 0 + bb_set q)) e w = if e = b ∧ w = 6 then g 0 + bb_set q else if e = b ∧ w = 5 then q else if e = b ∧ w = 2 then 1 else bb_R g e w := fun e w w0 w1 => by
              rw [bb_R_g1 w0 w1 (by omega) (by omega), bb_R_g1 w0 w1 (by omega) (by omega), bb_R_g1 w0 w1 (by omega) (by omega)]
            have lo : ∀ k, k < 16 → bb_g1 (bb_g1 (bb_g1 g (16 + 51 * b + 2) 1) (16 + 51 * b + 5) q) (16 + 51 * b + 6) (g 0 + bb_set q) k = g k := fun k hk => by
              rw [bb_g1_ne (by omega), bb_g1_ne (by omega), bb_g1_ne (by omega)]
            have hw2 : bb_WB (bb_g1 (bb_g1 (bb_g1 g (16 + 51 * b + 2) 1) (16 + 51 * b + 5) q) (16 + 51 * b + 6) (g 0 + bb_set q)) b (g 0) := by
              refine bb_WB_f hb (fun w w0 w1 a2 a4 a5 a6 => by rw [hR b w w0 w1, if_neg (by omega), if_neg (by omega), if_neg (by omega)]) ?_ ?_ ?_ ?_ ?_
              · rw [hR b 2 (by omega) (by omega), if_neg (by omega), if_neg (by omega), if_pos (by omega)]; omega
              · rw [hR b 4 (by omega) (by omega), if_neg (by omega), if_neg (by omega), if_neg (by omega)]; omega
              · rw [hR b 5 (by omega) (by omega), if_neg (by omega), if_pos (by omega)]; omega
              · rw [hR b 6 (by omega) (by omega), if_pos (by omega)]; omega
              · rw [hR b 2 (by omega) (by omega), hR b 5 (by omega) (by omega), if_neg (by omega), if_neg (by omega), if_pos (by omega), if_neg (by omega), if_pos (by omega)]; omega
            refine bb_WS_book (e := b) hw (by omega) hc (fun k hk => (lo k (by omega)).symm) (lo 0 (by omega)) (by rw [lo 1 (by omega)]; omega) (by rw [lo 2 (by omega)]; omega) (fun e' a d he w w0 w1 => ?_) (by rw [lo 0 (by omega)]; exact hw2) ?_
            · rw [hR e' w w0 w1, if_neg (fun x => he x.1), if_neg (fun x => he x.1), if_neg (fun x => he x.1)]
            · rw [hR b 2 (by omega) (by omega), if_neg (by omega), if_neg (by omega), if_pos (by omega)]; omega
theorem bb_gs_R {b p e w : Int} (p0 : 0 ≤ p) (p1 : p < 192) (e0 : 0 ≤ e) (w0 : 0 ≤ w) (w1 : w < 51) : bb_R (bb_gs g b p) e w = if e = b ∧ w = 43 + p / 24 then bb_or (bb_R g b (43 + p / 24)) (p % 24) else bb_R g e w := by
  unfold bb_gs
  rw [bb_R_lo e0 w0 (by omega), bb_R_g1 w0 w1 (by omega) (by omega)]
theorem bb_W_gs (hw : bb_WS c g) (hc : c + 1200 ≤ 50000000) {b p : Int} (b0 : 0 ≤ b) (b1 : b < g 3) (p0 : 0 ≤ p) (p1 : p < 192) : bb_WS (c + 1200) (bb_gs g b p) := by
  have n := bb_WS_n hw
  have hb := bb_WS_W hw b0 b1
  have hn := bb_WB_n hb
  have hl := bb_WB_l hb (j := p / 24) (by omega) (by omega)
  have ho := bb_or_rg (j := p % 24) hl.1 hl.2 (by omega) (by omega)
  have hw2 := bb_WB_lo (k := 6) (v := g 6 + 1) b0 (by omega) (bb_WB_g1 (w := 43 + p / 24) (v := bb_or (bb_R g b (43 + p / 24)) (p % 24)) (by omega) (by omega) hb (Int.le_refl _) (.inr (.inr (.inr ⟨by omega, ho⟩)))) (Int.le_refl _)
  have lo : ∀ k, k < 16 → k ≠ 6 → bb_gs g b p k = g k := fun k hk k2 => by
    unfold bb_gs
    rw [bb_g1_ne k2, bb_g1_ne (by omega)]
  refine bb_WS_book (e := b) hw (by omega) hc (fun k hk => (lo k (by omega) (by omega)).symm) (lo 0 (by omega) (by omega)) (by rw [lo 1 (by omega) (by omega)]; omega) (by rw [lo 2 (by omega) (by omega)]; omega) (fun e' a d he w w0 w1 => ?_) (by rw [lo 0 (by omega) (by omega)]; exact hw2) ?_
  · rw [bb_gs_R p0 p1 a w0 w1, if_neg (fun x => he x.1)]
  · rw [bb_gs_R p0 p1 b0 (by omega) (by omega), if_neg (by omega)]
theorem bb_W_slip (hw : bb_WS c g) (hc : c + 1200 ≤ 50000000) {b p : Int} (h : bb_sp_slip g b p = .inr (v, g')) : bb_WS (c + 1200) g' := by
  unfold bb_sp_slip at h
  split at h
  · cases h
  · rename_i hh
    split at h
    · cases h
    · split at h
      · cases h
      · rename_i h1 h2
        have hg := (Prod.mk.inj (Sum.inr.inj h)).2
        rw [← hg]
        have hm := bb_at_n hh
        have h1 := Decidable.not_not.mp h1
        have hr := ab_rall_rg (bb_WS_IR hw hm.1.1 hm.1.2)
        exact bb_W_gs hw hc hm.1.1 hm.1.2 h1.1.1 (by omega)
theorem bb_W_deliver (hw : bb_WS c g) (hc : c + 1200 ≤ 50000000) {b : Int} (h : bb_sp_deliver g b = .inr (v, g')) : bb_WS (c + 1200) g' := by
  have n := bb_WS_n hw
  unfold bb_sp_deliver at h
  split at h
  · cases h
  · rename_i hh
    split at h
    · cases h
    · split at h
      · cases h
      · rename_i h1 h2
        cases h
        have hm := bb_at_n hh
        have hb := bb_WS_W hw hm.1.1 hm.1.2
        have hn := bb_WB_n hb
        have b0 := hm.1.1
        have hI := bb_WS_IR hw hm.1.1 hm.1.2
        have hal := ab_rall_rg hI
        have hwr := ab_rwrong_rg hI
        have hmi := ab_rmiss_rg hI
        have hbr : 0 ≤ bb_br g b ∧ bb_br g b ≤ 24 := by unfold bb_br; omega
        have hR : ∀ e w, 0 ≤ e → 0 ≤ w → w < 51 → bb_R (bb_g1 (bb_g1 (bb_g1 g 1 (g 1 + (bb_br g b - ab_rmiss g b))) 7 (g 7 + bb_br g b)) (16 + 51 * b + 2) 4) e w = if e = b ∧ w = 2 then 4 else bb_R g e w := fun e w e0 w0 w1 => by
          rw [bb_R_g1 w0 w1 (by omega) (by omega), bb_R_lo e0 w0 (by omega), bb_R_lo e0 w0 (by omega)]
        have lo : ∀ k, k < 16 → k ≠ 1 → k ≠ 7 → bb_g1 (bb_g1 (bb_g1 g 1 (g 1 + (bb_br g b - ab_rmiss g b))) 7 (g 7 + bb_br g b)) (16 + 51 * b + 2) 4 k = g k := fun k hk k1 k7 => by
          rw [bb_g1_ne (by omega), bb_g1_ne k7, bb_g1_ne k1]
        have hw2 : bb_WB (bb_g1 (bb_g1 (bb_g1 g 1 (g 1 + (bb_br g b - ab_rmiss g b))) 7 (g 7 + bb_br g b)) (16 + 51 * b + 2) 4) b (g 0) := by
          refine bb_WB_f hb (fun w w0 w1 a2 a4 a5 a6 => by rw [hR b w b0 w0 w1, if_neg (by omega)]) ?_ ?_ ?_ ?_ ?_
          · rw [hR b 2 b0 (by omega) (by omega), if_pos (by omega)]; omega
          · rw [hR b 4 b0 (by omega) (by omega), if_neg (by omega)]; omega
          · rw [hR b 5 b0 (by omega) (by omega), if_neg (by omega)]; omega
          · rw [hR b 6 b0 (by omega) (by omega), if_neg (by omega)]; omega
          · rw [hR b 2 b0 (by omega) (by omega), hR b 5 b0 (by omega) (by omega), if_pos (by omega), if_neg (by omega)]; omega
        refine bb_WS_book (e := b) hw (by omega) hc (fun k hk => (lo k (by omega) (by omega) (by omega)).symm) (lo 0 (by omega) (by omega) (by omega)) (by rw [bb_g1_ne (by omega), bb_g1_ne (by omega), bb_g1_eq]; omega) (by rw [lo 2 (by omega) (by omega) (by omega)]; omega) (fun e' a d he w w0 w1 => ?_) (by rw [lo 0 (by omega) (by omega) (by omega)]; exact hw2) ?_
        · rw [hR e' w a w0 w1, if_neg (fun x => he x.1)]
        · rw [hR b 2 b0 (by omega) (by omega), if_pos (by omega)]; omega
end
