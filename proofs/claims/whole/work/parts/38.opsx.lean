/-! ===== the rows behind stay rows: books, presses, minutes ===== -/
theorem bb_S_upd {f f' : Int → Int} {i n d : Int} (h0 : 0 ≤ i) (h1 : i < n) (ho : ∀ j, 0 ≤ j → j < n → j ≠ i → f' j = f j) (hi : f' i = f i + d) : ab_S f' n = ab_S f n + d := by
  have : ∀ k, 0 ≤ k → i + 1 + k ≤ n → ab_S f' (i + 1 + k) = ab_S f (i + 1 + k) + d := by
    intro k hk
    refine ab_Sind (P := fun k => i + 1 + k ≤ n → ab_S f' (i + 1 + k) = ab_S f (i + 1 + k) + d) (fun _ => ?_) (fun j hj ih hle => ?_) k hk
    · rw [Int.add_zero, ab_S1 f' h0, ab_S1 f h0, hi, ab_Scongr (f := f') (g := f) (fun j a c => ho j a (by omega) (by omega))]
      omega
    · rw [← Int.add_assoc, ab_S1 f' (n := i + 1 + j) (by omega), ab_S1 f (n := i + 1 + j) (by omega), ih (by omega), ho (i + 1 + j) (by omega) (by omega) (by omega)]
      omega
  have h := this (n - i - 1) (by omega) (by omega)
  rwa [show i + 1 + (n - i - 1) = n by omega] at h
section
variable {c : Int} {g g' : Int → Int} {v : Int}
theorem bb_gb_lo {p st k : Int} (h3 : 0 ≤ g 3) (hk : k < 16) (k3 : k ≠ 3) : bb_gb g p st k = g k := by
  unfold bb_gb
  rw [if_neg k3, if_neg (by omega)]
theorem bb_gb_R {p st e w : Int} (h3 : 0 ≤ g 3) (e0 : 0 ≤ e) (e1 : e < g 3) (w0 : 0 ≤ w) (w1 : w < 51) : bb_R (bb_gb g p st) e w = bb_R g e w := by
  unfold bb_R bb_gb
  rw [if_neg (by omega), if_neg (by omega)]
theorem bb_gb_N {p st w : Int} (h3 : 0 ≤ g 3) (w0 : 0 ≤ w) (w1 : w < 51) : bb_R (bb_gb g p st) (g 3) w = if w = 0 then p else if w = 1 then st else if w = 5 then -1 else 0 := by
  unfold bb_R bb_gb
  rw [if_neg (by omega), if_pos (by omega)]
  by_cases h0 : w = 0
  · rw [if_pos (by omega), if_pos h0]
  · rw [if_neg (by omega), if_neg h0]
    by_cases h1 : w = 1
    · rw [if_pos (by omega), if_pos h1]
    · rw [if_neg (by omega), if_neg h1]
      by_cases h5 : w = 5
      · rw [if_pos (by omega), if_pos h5]
      · rw [if_neg (by omega), if_neg h5]
theorem bb_W_book (hw : bb_WS c g) (hc : c + 1200 ≤ 50000000) {p st : Int} (h : bb_sp_book g p st = .inr (v, g')) : bb_WS (c + 1200) g' := by
  have n := bb_WS_n hw
  unfold bb_sp_book at h
  split at h
  · cases h
  · split at h
    · cases h
    · rename_i h1 h2
      have hg := (Prod.mk.inj (Sum.inr.inj h)).2
      rw [← hg]
      have h1 := Decidable.not_not.mp h1
      have h3 : 0 ≤ g 3 := n.1.1
      have lo : ∀ k, k < 16 → k ≠ 3 → bb_gb g p st k = g k := fun k a d => bb_gb_lo h3 a d
      have e3 : bb_gb g p st 3 = g 3 + 1 := if_pos rfl
      obtain ⟨w1, w2, w3, w4⟩ := hw.2.2.2.2.2.2
      refine ⟨by omega, by rw [lo 2 (by omega) (by omega)]; omega, by rw [lo 0 (by omega) (by omega)]; omega, by rw [lo 1 (by omega) (by omega)]; omega, hc, fun e a d => ?_, fun q q0 q1 => ?_, fun q k q0 q1 k0 k1 => ?_, fun q k r j q0 q1 k0 k1 r0 r1 j0 j1 hh => ?_, ?_⟩
      · rw [lo 0 (by omega) (by omega)]
        by_cases he : e = g 3
        · subst he
          have hN : ∀ w, 0 ≤ w → w < 51 → bb_R (bb_gb g p st) (g 3) w = if w = 0 then p else if w = 1 then st else if w = 5 then -1 else 0 := fun w a d => bb_gb_N h3 a d
          refine ⟨?_, ?_, ?_, ?_, ?_, ?_, ?_, ?_, fun s s0 s1 => ?_, fun s s0 s1 => ?_, fun j j0 j1 => ?_⟩
          · rw [hN 0 (by omega) (by omega), if_pos rfl]; omega
          · rw [hN 1 (by omega) (by omega), if_neg (by omega), if_pos rfl]; omega
          · rw [hN 2 (by omega) (by omega), if_neg (by omega), if_neg (by omega), if_neg (by omega)]; omega
          · rw [hN 3 (by omega) (by omega), if_neg (by omega), if_neg (by omega), if_neg (by omega)]; omega
          · rw [hN 3 (by omega) (by omega), if_neg (by omega), if_neg (by omega), if_neg (by omega), hN 4 (by omega) (by omega), if_neg (by omega), if_neg (by omega), if_neg (by omega)]; omega
          · rw [hN 5 (by omega) (by omega), if_neg (by omega), if_neg (by omega), if_pos rfl]; omega
          · rw [hN 6 (by omega) (by omega), if_neg (by omega), if_neg (by omega), if_neg (by omega)]; omega
          · rw [hN 2 (by omega) (by omega), if_neg (by omega), if_neg (by omega), if_neg (by omega), hN 5 (by omega) (by omega), if_neg (by omega), if_neg (by omega), if_pos rfl]; omega
          · rw [hN _ (by omega) (by omega), hN _ (by omega) (by omega), hN _ (by omega) (by omega), if_neg (by omega), if_neg (by omega), if_neg (by omega), if_neg (by omega), if_neg (by omega), if_neg (by omega), if_neg (by omega), if_neg (by omega), if_neg (by omega)]; omega
          · rw [hN 3 (by omega) (by omega), if_neg (by omega), if_neg (by omega), if_neg (by omega)] at s1; omega
          · rw [hN _ (by omega) (by omega), if_neg (by omega), if_neg (by omega), if_neg (by omega)]; omega
        · rw [e3] at d
          exact bb_WB_congr (fun w x y => (bb_gb_R h3 a (by omega) x y).symm) (Int.le_refl _) (bb_WS_W hw a (by omega))
      · rw [lo _ (by omega) (by omega)]; exact w1 q q0 q1
      · have a := w1 q q0 q1
        rw [lo _ (by omega) (by omega)] at k1
        have d := w2 q k q0 q1 k0 k1
        rw [lo (8 + 4 * q + 1 + k) (by omega) (by omega), bb_gb_R h3 d.1.1 d.1.2 (by omega) (by omega), e3]
        exact ⟨by omega, d.2⟩
      · have a := w1 q q0 q1
        have d := w1 r r0 r1
        rw [lo _ (by omega) (by omega)] at k1 j1
        rw [lo _ (by omega) (by omega), lo _ (by omega) (by omega)] at hh
        exact w3 q k r j q0 q1 k0 k1 r0 r1 j0 j1 hh
      · rw [e3, ab_S1 _ h3, lo 8 (by omega) (by omega), lo 12 (by omega) (by omega), ← w4]
        rw [ab_Scongr (f := fun e => if bb_R (bb_gb g p st) e 2 = 2 then 1 else 0) (g := fun e => if bb_R g e 2 = 2 then 1 else 0) (fun i a d => by rw [bb_gb_R h3 a d (by omega) (by omega)])]
        have e2 : bb_R (bb_gb g p st) (g 3) 2 = 0 := by rw [bb_gb_N h3 (by omega) (by omega), if_neg (by omega), if_neg (by omega), if_neg (by omega)]
        rw [e2, if_neg (by decide), Int.add_zero]
theorem bb_W_press (hw : bb_WS c g) (hc : c + 1200 ≤ 50000000) {b p : Int} (h : bb_sp_press g b p = .inr (v, g')) : bb_WS (c + 1200) g' := by
  have n := bb_WS_n hw
  unfold bb_sp_press at h
  split at h
  · cases h
  · split at h
    · cases h
    · split at h
      · cases h
      · rename_i hx hq _ hh
        split at h
        · cases h
        · rename_i h1
          have hg := (Prod.mk.inj (Sum.inr.inj h)).2
          rw [← hg]
          have hm := bb_at_n hh
          have hq := Decidable.not_not.mp hq
          have hb := bb_WS_W hw hm.1.1 hm.1.2
          have hn := bb_WB_n hb
          have b0 := hm.1.1
          obtain ⟨w1, w2, w3, w4⟩ := hw.2.2.2.2.2.2
          have hh1 := w1 p hq.1 (by omega)
          have hR : ∀ e w, 0 ≤ e → 0 ≤ w → w < 51 → bb_R (bb_g1 (bb_g1 (bb_g1 g (8 + 4 * p + 1 + g (8 + 4 * p)) b) (8 + 4 * p) (g (8 + 4 * p) + 1)) (16 + 51 * b + 2) 2) e w = if e = b ∧ w = 2 then 2 else bb_R g e w := fun e w e0 w0 w1 => by
            rw [bb_R_g1 w0 w1 (by omega) (by omega), bb_R_lo e0 w0 (by omega), bb_R_lo e0 w0 (by omega)]
          have lo : ∀ k, k < 16 → bb_g1 (bb_g1 (bb_g1 g (8 + 4 * p + 1 + g (8 + 4 * p)) b) (8 + 4 * p) (g (8 + 4 * p) + 1)) (16 + 51 * b + 2) 2 k = if k = 8 + 4 * p then g (8 + 4 * p) + 1 else if k = 8 + 4 * p + 1 + g (8 + 4 * p) then b else g k := fun k hk => by
            rw [bb_g1_ne (by omega)]
            rfl
          have hw2 : bb_WB (bb_g1 (bb_g1 (bb_g1 g (8 + 4 * p + 1 + g (8 + 4 * p)) b) (8 + 4 * p) (g (8 + 4 * p) + 1)) (16 + 51 * b + 2) 2) b (g 0) := by
            refine bb_WB_f hb (fun w w0 w1 a2 a4 a5 a6 => by rw [hR b w b0 w0 w1, if_neg (by omega)]) ?_ ?_ ?_ ?_ ?_
            · rw [hR b 2 b0 (by omega) (by omega), if_pos (by omega)]; omega
            · rw [hR b 4 b0 (by omega) (by omega), if_neg (by omega)]; omega
            · rw [hR b 5 b0 (by omega) (by omega), if_neg (by omega)]; omega
            · rw [hR b 6 b0 (by omega) (by omega), if_neg (by omega)]; omega
            · rw [hR b 2 b0 (by omega) (by omega), hR b 5 b0 (by omega) (by omega), if_pos (by omega), if_neg (by omega)]; omega
          generalize hG : bb_g1 (bb_g1 (bb_g1 g (8 + 4 * p + 1 + g (8 + 4 * p)) b) (8 + 4 * p) (g (8 + 4 * p) + 1)) (16 + 51 * b + 2) 2 = G at hR lo hw2 ⊢
          have l3 : G 3 = g 3 := by rw [lo 3 (by omega), if_neg (by omega), if_neg (by omega)]
          have l0 : G 0 = g 0 := by rw [lo 0 (by omega), if_neg (by omega), if_neg (by omega)]
          have l1 : G 1 = g 1 := by rw [lo 1 (by omega), if_neg (by omega), if_neg (by omega)]
          have l2 : G 2 = g 2 := by rw [lo 2 (by omega), if_neg (by omega), if_neg (by omega)]
          have hgt : ∀ q, 0 ≤ q → q < 2 → G (8 + 4 * q) = if q = p then g (8 + 4 * p) + 1 else g (8 + 4 * q) := fun q q0 q1 => by
            rw [lo _ (by omega)]
            by_cases hqp : q = p
            · rw [if_pos (by omega), if_pos hqp]
            · rw [if_neg (by omega), if_neg (by omega), if_neg hqp]
          have ent : ∀ q k, 0 ≤ q → q < 2 → 0 ≤ k → k < 3 → G (8 + 4 * q + 1 + k) = if q = p ∧ k = g (8 + 4 * p) then b else g (8 + 4 * q + 1 + k) := fun q k q0 q1 k0 k1 => by
            rw [lo _ (by omega), if_neg (by omega)]
            by_cases hqp : q = p ∧ k = g (8 + 4 * p)
            · rw [if_pos (by omega), if_pos hqp]
            · rw [if_neg (by omega), if_neg hqp]
          have hk9 : ∀ q k, 0 ≤ q → q < 2 → k < G (8 + 4 * q) → ¬ (q = p ∧ k = g (8 + 4 * p)) → k < g (8 + 4 * q) := fun q k q0 q1 hk hne => by
            rw [hgt q q0 q1] at hk
            by_cases hqp : q = p
            · subst hqp
              rw [if_pos rfl] at hk
              have : k ≠ g (8 + 4 * q) := fun x => hne ⟨rfl, x⟩
              omega
            · rw [if_neg hqp] at hk
              exact hk
          have hk3 : ∀ q k, 0 ≤ q → q < 2 → k < G (8 + 4 * q) → k < 3 := fun q k q0 q1 hk => by
            have := w1 q q0 q1
            rw [hgt q q0 q1] at hk
            split at hk <;> omega
          refine ⟨by omega, by omega, by omega, by omega, hc, fun e a d => ?_, fun q q0 q1 => ?_, fun q k q0 q1 k0 k1 => ?_, fun q k r j q0 q1 k0 k1 r0 r1 j0 j1 hh => ?_, ?_⟩
          · rw [l0]
            by_cases he : e = b
            · subst he; exact hw2
            · exact bb_WB_congr (fun w x y => by rw [hR e w a x y, if_neg (fun z => he z.1)]) (Int.le_refl _) (bb_WS_W hw a (by omega))
          · have := w1 q q0 q1
            rw [hgt q q0 q1]
            split <;> omega
          · have hq1 := w1 q q0 q1
            have k3 := hk3 q k q0 q1 k1
            rw [ent q k q0 q1 k0 k3, l3]
            by_cases hqp : q = p ∧ k = g (8 + 4 * p)
            · rw [if_pos hqp, hR b 2 b0 (by omega) (by omega), if_pos ⟨rfl, rfl⟩]
              exact ⟨hm.1, rfl⟩
            · rw [if_neg hqp]
              have d := w2 q k q0 q1 k0 (hk9 q k q0 q1 k1 hqp)
              rw [hR _ 2 d.1.1 (by omega) (by omega), d.2]
              refine ⟨d.1, ?_⟩
              split <;> rfl
          · have hq1 := w1 q q0 q1
            have hr1 := w1 r r0 r1
            have k3 := hk3 q k q0 q1 k1
            have j3 := hk3 r j r0 r1 j1
            rw [ent q k q0 q1 k0 k3, ent r j r0 r1 j0 j3] at hh
            by_cases hqp : q = p ∧ k = g (8 + 4 * p)
            · by_cases hrp : r = p ∧ j = g (8 + 4 * p)
              · omega
              · rw [if_pos hqp, if_neg hrp] at hh
                have d := w2 r j r0 r1 j0 (hk9 r j r0 r1 j1 hrp)
                rw [← hh, hm.2] at d
                omega
            · by_cases hrp : r = p ∧ j = g (8 + 4 * p)
              · rw [if_neg hqp, if_pos hrp] at hh
                have d := w2 q k q0 q1 k0 (hk9 q k q0 q1 k1 hqp)
                rw [hh, hm.2] at d
                omega
              · rw [if_neg hqp, if_neg hrp] at hh
                exact w3 q k r j q0 q1 k0 (hk9 q k q0 q1 k1 hqp) r0 r1 j0 (hk9 r j r0 r1 j1 hrp) hh
          · rw [l3]
            have hS := bb_S_upd (f := fun e => if bb_R g e 2 = 2 then 1 else 0) (f' := fun e => if bb_R G e 2 = 2 then 1 else 0) (i := b) (n := g 3) (d := 1) b0 hm.1.2 (fun j a d he => by
              have h9 := hR j 2 a (by omega) (by omega)
              rw [if_neg (fun x => he x.1)] at h9
              show (if bb_R G j 2 = 2 then (1 : Int) else 0) = (if bb_R g j 2 = 2 then 1 else 0)
              rw [h9]) (by
              have h9 := hR b 2 b0 (by omega) (by omega)
              rw [if_pos ⟨rfl, rfl⟩] at h9
              show (if bb_R G b 2 = 2 then (1 : Int) else 0) = (if bb_R g b 2 = 2 then 1 else 0) + 1
              rw [h9, hm.2]; decide)
            rw [hS, w4]
            have e8 := hgt 0 (by omega) (by omega)
            have e12 := hgt 1 (by omega) (by omega)
            rw [show (8 : Int) + 4 * 0 = 8 from rfl] at e8
            rw [show (8 : Int) + 4 * 1 = 12 from rfl] at e12
            rw [e8, e12]
            have hp : p = 0 ∨ p = 1 := by omega
            rcases hp with rfl | rfl
            · rw [if_pos rfl, if_neg (by omega)]
              show g 8 + g 12 + 1 = g 8 + 1 + g 12
              omega
            · rw [if_neg (by omega), if_pos rfl]
              show g 8 + g 12 + 1 = g 8 + (g 12 + 1)
              omega
theorem bb_W_lift (hw : bb_WS c g) (hc : c + 1200 ≤ 50000000) {p : Int} (h : bb_sp_lift g p = .inr (v, g')) : bb_WS (c + 1200) g' := by
  have n := bb_WS_n hw
  unfold bb_sp_lift at h
  split at h
  · cases h
  · split at h
    · cases h
    · split at h
      · cases h
      · rename_i hq h1 h2
        have hg := (Prod.mk.inj (Sum.inr.inj h)).2
        rw [← hg]
        have hq := Decidable.not_not.mp hq
        obtain ⟨w1, w2, w3, w4⟩ := hw.2.2.2.2.2.2
        have hh1 := w1 p hq.1 (by omega)
        have ht := w2 p (g (8 + 4 * p) - 1) hq.1 (by omega) (by omega) (by omega)
        have ht : (0 ≤ bb_top g p ∧ bb_top g p < g 3) ∧ bb_R g (bb_top g p) 2 = 2 := ht
        have htd : g (8 + 4 * p + 1 + (g (8 + 4 * p) - 1)) = bb_top g p := rfl
        generalize bb_top g p = b at ht htd ⊢
        have hb := bb_WS_W hw ht.1.1 ht.1.2
        have hn := bb_WB_n hb
        have b0 := ht.1.1
        have hR : ∀ e w, 0 ≤ e → 0 ≤ w → w < 51 → bb_R (bb_g1 (bb_g1 g (8 + 4 * p) (g (8 + 4 * p) - 1)) (16 + 51 * b + 2) 3) e w = if e = b ∧ w = 2 then 3 else bb_R g e w := fun e w e0 w0 w1 => by
          rw [bb_R_g1 w0 w1 (by omega) (by omega), bb_R_lo e0 w0 (by omega)]
        have lo : ∀ k, k < 16 → bb_g1 (bb_g1 g (8 + 4 * p) (g (8 + 4 * p) - 1)) (16 + 51 * b + 2) 3 k = if k = 8 + 4 * p then g (8 + 4 * p) - 1 else g k := fun k hk => by
          rw [bb_g1_ne (by omega)]
          rfl
        have hw2 : bb_WB (bb_g1 (bb_g1 g (8 + 4 * p) (g (8 + 4 * p) - 1)) (16 + 51 * b + 2) 3) b (g 0) := by
          refine bb_WB_f hb (fun w w0 w1 a2 a4 a5 a6 => by rw [hR b w b0 w0 w1, if_neg (by omega)]) ?_ ?_ ?_ ?_ ?_
          · rw [hR b 2 b0 (by omega) (by omega), if_pos (by omega)]; omega
          · rw [hR b 4 b0 (by omega) (by omega), if_neg (by omega)]; omega
          · rw [hR b 5 b0 (by omega) (by omega), if_neg (by omega)]; omega
          · rw [hR b 6 b0 (by omega) (by omega), if_neg (by omega)]; omega
          · rw [hR b 2 b0 (by omega) (by omega), hR b 5 b0 (by omega) (by omega), if_pos (by omega), if_neg (by omega)]; omega
        generalize hG : bb_g1 (bb_g1 g (8 + 4 * p) (g (8 + 4 * p) - 1)) (16 + 51 * b + 2) 3 = G at hR lo hw2 ⊢
        have l3 : G 3 = g 3 := by rw [lo 3 (by omega), if_neg (by omega)]
        have l0 : G 0 = g 0 := by rw [lo 0 (by omega), if_neg (by omega)]
        have l1 : G 1 = g 1 := by rw [lo 1 (by omega), if_neg (by omega)]
        have l2 : G 2 = g 2 := by rw [lo 2 (by omega), if_neg (by omega)]
        have hgt : ∀ q, 0 ≤ q → q < 2 → G (8 + 4 * q) = if q = p then g (8 + 4 * p) - 1 else g (8 + 4 * q) := fun q q0 q1 => by
          rw [lo _ (by omega)]
          by_cases hqp : q = p
          · rw [if_pos (by omega), if_pos hqp]
          · rw [if_neg (by omega), if_neg hqp]
        have ent : ∀ q k, 0 ≤ q → q < 2 → 0 ≤ k → k < 3 → G (8 + 4 * q + 1 + k) = g (8 + 4 * q + 1 + k) := fun q k q0 q1 k0 k1 => by
          rw [lo _ (by omega), if_neg (by omega)]
        have hk9 : ∀ q k, 0 ≤ q → q < 2 → k < G (8 + 4 * q) → k < g (8 + 4 * q) ∧ (q = p → k < g (8 + 4 * p) - 1) := fun q k q0 q1 hk => by
          rw [hgt q q0 q1] at hk
          by_cases hqp : q = p
          · subst hqp
            rw [if_pos rfl] at hk
            omega
          · rw [if_neg hqp] at hk
            exact ⟨hk, fun x => absurd x hqp⟩
        refine ⟨by omega, by omega, by omega, by omega, hc, fun e a d => ?_, fun q q0 q1 => ?_, fun q k q0 q1 k0 k1 => ?_, fun q k r j q0 q1 k0 k1 r0 r1 j0 j1 hh => ?_, ?_⟩
        · rw [l0]
          by_cases he : e = b
          · subst he; exact hw2
          · exact bb_WB_congr (fun w x y => by rw [hR e w a x y, if_neg (fun z => he z.1)]) (Int.le_refl _) (bb_WS_W hw a (by omega))
        · have := w1 q q0 q1
          rw [hgt q q0 q1]
          split <;> omega
        · have hq1 := w1 q q0 q1
          have hk := hk9 q k q0 q1 k1
          have d := w2 q k q0 q1 k0 hk.1
          rw [ent q k q0 q1 k0 (by omega), l3, hR _ 2 d.1.1 (by omega) (by omega)]
          refine ⟨d.1, ?_⟩
          by_cases hx : g (8 + 4 * q + 1 + k) = b
          · have hy := w3 q k p (g (8 + 4 * p) - 1) q0 q1 k0 hk.1 hq.1 (by omega) (by omega) (by omega) (by rw [htd]; exact hx)
            have := hk.2 hy.1
            omega
          · rw [if_neg (fun z => hx z.1)]
            exact d.2
        · have hq1 := w1 q q0 q1
          have hr1 := w1 r r0 r1
          have hk := hk9 q k q0 q1 k1
          have hj := hk9 r j r0 r1 j1
          rw [ent q k q0 q1 k0 (by omega), ent r j r0 r1 j0 (by omega)] at hh
          exact w3 q k r j q0 q1 k0 hk.1 r0 r1 j0 hj.1 hh
        · rw [l3]
          have hS := bb_S_upd (f := fun e => if bb_R g e 2 = 2 then 1 else 0) (f' := fun e => if bb_R G e 2 = 2 then 1 else 0) (i := b) (n := g 3) (d := -1) b0 ht.1.2 (fun j a d he => by
              have h9 := hR j 2 a (by omega) (by omega)
              rw [if_neg (fun x => he x.1)] at h9
              show (if bb_R G j 2 = 2 then (1 : Int) else 0) = (if bb_R g j 2 = 2 then 1 else 0)
              rw [h9]) (by
              have h9 := hR b 2 b0 (by omega) (by omega)
              rw [if_pos ⟨rfl, rfl⟩] at h9
              show (if bb_R G b 2 = 2 then (1 : Int) else 0) = (if bb_R g b 2 = 2 then 1 else 0) + -1
              rw [h9, ht.2]; decide)
          rw [hS, w4]
          have e8 := hgt 0 (by omega) (by omega)
          have e12 := hgt 1 (by omega) (by omega)
          rw [show (8 : Int) + 4 * 0 = 8 from rfl] at e8
          rw [show (8 : Int) + 4 * 1 = 12 from rfl] at e12
          rw [e8, e12]
          have hp : p = 0 ∨ p = 1 := by omega
          rcases hp with rfl | rfl
          · rw [if_pos rfl, if_neg (by omega)]
            show g 8 + g 12 + -1 = g 8 - 1 + g 12
            omega
          · rw [if_neg (by omega), if_pos rfl]
            show g 8 + g 12 + -1 = g 8 + (g 12 - 1)
            omega
theorem bb_mq_R {h : Int → Int} {k e w : Int} (e0 : 0 ≤ e) (k0 : 0 ≤ k) (w0 : 0 ≤ w) (w1 : w < 51) (hl : bb_R h k 2 = 1 ∧ bb_nd h k (h 0) = 0) : bb_R (bb_mq h k) e w = if e = k ∧ (w = 4 ∨ w = 2 ∨ w = 6) then 0 else if e = k ∧ w = 5 then -1 else bb_R h e w := by
  unfold bb_mq
  rw [if_pos hl, bb_R_g1 w0 w1 (by omega) (by omega), bb_R_g1 w0 w1 (by omega) (by omega), bb_R_g1 w0 w1 (by omega) (by omega), bb_R_g1 w0 w1 (by omega) (by omega), bb_R_lo e0 w0 (by omega)]
  by_cases h6 : e = k ∧ w = 6
  · rw [if_pos h6, if_pos (by omega)]
  · rw [if_neg h6]
    by_cases h5 : e = k ∧ w = 5
    · rw [if_pos h5, if_neg (by omega), if_pos h5]
    · rw [if_neg h5]
      by_cases h2 : e = k ∧ w = 2
      · rw [if_pos h2, if_pos (by omega)]
      · rw [if_neg h2]
        by_cases h4 : e = k ∧ w = 4
        · rw [if_pos h4, if_pos (by omega)]
        · rw [if_neg h4, if_neg (by omega), if_neg h5]
theorem bb_mq_lo {h : Int → Int} {k q : Int} (k0 : 0 ≤ k) (hq : q < 16) (h5 : q ≠ 5) : bb_mq h k q = h q := by
  unfold bb_mq
  split
  · rw [bb_g1_ne (by omega), bb_g1_ne (by omega), bb_g1_ne (by omega), bb_g1_ne (by omega), bb_g1_ne h5]
  · rfl
theorem bb_W_mq (hw : bb_WS c g) {k : Int} (k0 : 0 ≤ k) (k1 : k < g 3) : bb_WS c (bb_mq g k) := by
  by_cases hl : bb_R g k 2 = 1 ∧ bb_nd g k (g 0) = 0
  · have n := bb_WS_n hw
    have hb := bb_WS_W hw k0 k1
    have hn := bb_WB_n hb
    have lo : ∀ q, q < 16 → q ≠ 5 → bb_mq g k q = g q := fun q a d => bb_mq_lo k0 a d
    have hR := fun e w (e0 : 0 ≤ e) (w0 : 0 ≤ w) (w1 : w < 51) => bb_mq_R (h := g) (k := k) e0 k0 w0 w1 hl
    refine bb_WS_book (e := k) hw (Int.le_refl _) n.2.2.2.2 (fun q hq => (lo q (by omega) (by omega)).symm) (lo 0 (by omega) (by omega)) (by rw [lo 1 (by omega) (by omega)]; omega) (by rw [lo 2 (by omega) (by omega)]; omega) (fun e' a d he w w0 w1 => ?_) ?_ ?_
    · rw [hR e' w a w0 w1, if_neg (fun x => he x.1), if_neg (fun x => he x.1)]
    · rw [lo 0 (by omega) (by omega)]
      refine bb_WB_f hb (fun w w0 w1 a2 a4 a5 a6 => by rw [hR k w k0 w0 w1, if_neg (by omega), if_neg (by omega)]) ?_ ?_ ?_ ?_ ?_
      · rw [hR k 2 k0 (by omega) (by omega), if_pos (by omega)]; omega
      · rw [hR k 4 k0 (by omega) (by omega), if_pos (by omega)]; omega
      · rw [hR k 5 k0 (by omega) (by omega), if_neg (by omega), if_pos (by omega)]; omega
      · rw [hR k 6 k0 (by omega) (by omega), if_pos (by omega)]; omega
      · rw [hR k 2 k0 (by omega) (by omega), hR k 5 k0 (by omega) (by omega), if_pos (by omega), if_neg (by omega), if_pos (by omega)]; omega
    · rw [hR k 2 k0 (by omega) (by omega), if_pos (by omega)]; omega
  · have e : bb_mq g k = g := if_neg hl
    rw [e]
    exact hw
theorem bb_W_mN {h : Int → Int} (hw : bb_WS c h) : ∀ m : Nat, (m : Int) ≤ h 3 → bb_WS c (bb_mN h m).2 ∧ (bb_mN h m).2 3 = h 3 ∧ (bb_mN h m).2 0 = h 0
  | 0, _ => ⟨hw, rfl, rfl⟩
  | m + 1, hm => by
    obtain ⟨i1, i2, i3⟩ := bb_W_mN hw m (by omega)
    refine ⟨bb_W_mq i1 (by omega) (by omega), ?_, ?_⟩
    · rw [← i2]; exact bb_mq_lo (by omega) (by omega) (by omega)
    · rw [← i3]; exact bb_mq_lo (by omega) (by omega) (by omega)
theorem bb_W_g0 (hw : bb_WS c g) (hc : c + 1 ≤ 50000000) : bb_WS (c + 1) (bb_g1 g 0 (g 0 + 1)) := by
  have n := bb_WS_n hw
  have lo : ∀ k, k ≠ 0 → bb_g1 g 0 (g 0 + 1) k = g k := fun k hk => bb_g1_ne hk
  refine ⟨by rw [lo 3 (by omega)]; omega, by rw [lo 2 (by omega)]; omega, by rw [bb_g1_eq]; omega, by rw [lo 1 (by omega)]; omega, hc, fun e a d => ?_, bb_PW_congr (fun k hk => (lo k (by omega)).symm) n.1 (fun e a d => (bb_R_lo a (by omega) (by omega)).symm) hw.2.2.2.2.2.2⟩
  rw [lo 3 (by omega)] at d
  rw [bb_g1_eq]
  exact bb_WB_lo a (by omega) (bb_WS_W hw a d) (by omega)
theorem bb_W_m1 (hw : bb_WS c g) (hc : c + 1 ≤ 50000000) : bb_WS (c + 1) (bb_m1 g).2 ∧ (bb_m1 g).2 3 = g 3 := by
  have n := bb_WS_n hw
  have e3 : bb_g1 g 0 (g 0 + 1) 3 = g 3 := bb_g1_ne (by omega)
  obtain ⟨i1, i2, i3⟩ := bb_W_mN (bb_W_g0 hw hc) (g 3).toNat (by rw [e3]; omega)
  exact ⟨i1, i2.trans e3⟩
theorem bb_W_pN (hw : bb_WS c g) : ∀ m : Nat, c + m ≤ 50000000 → bb_WS (c + m) (bb_pN g m).2 ∧ (bb_pN g m).2 3 = g 3
  | 0, _ => ⟨by rw [show c + ((0 : Nat) : Int) = c by omega]; exact hw, rfl⟩
  | m + 1, hm => by
    obtain ⟨i1, i2⟩ := bb_W_pN hw m (by omega)
    obtain ⟨j1, j2⟩ := bb_W_m1 i1 (by omega)
    rw [show c + ((m + 1 : Nat) : Int) = c + m + 1 by omega]
    exact ⟨j1, j2.trans i2⟩
theorem bb_W_pass (hw : bb_WS c g) (hc : c + 1200 ≤ 50000000) {m : Int} (h : bb_sp_pass g m = .inr (v, g')) : bb_WS (c + 1200) g' := by
  unfold bb_sp_pass at h
  split at h
  · cases h
  · rename_i h1
    have hg := (Prod.mk.inj (Sum.inr.inj (h.trans (by rfl) : (Sum.inr ((bb_pN g m.toNat).1, (bb_pN g m.toNat).2) : bb_O) = Sum.inr (v, g')))).2
    have h1 := Decidable.not_not.mp h1
    rw [← hg]
    exact bb_WS_mono (by omega) hc (bb_W_pN hw m.toNat (by omega)).1
end
