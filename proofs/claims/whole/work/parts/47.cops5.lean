/-! ===== the bench's changes are these: minutes ===== -/
/-- k books of the minute are through -/
def bb_PK (D : Nat → Int → Int) (L : Nat → Int → Int64) (h : Int → Int) (k : Int) : Prop :=
  (D 19 2 = h 3 ∧ D 19 3 = h 0 ∧ D 19 4 = h 1 ∧ D 19 5 = h 2 ∧ D 19 6 = h 4 ∧ D 19 7 = h 5 ∧ D 19 8 = h 6 ∧ D 19 9 = h 7) ∧
  (∀ p, 0 ≤ p → p < 2 → D (ab_pI 19 p) 1 = h (8 + 4 * p) ∧ ∀ k, 0 ≤ k → k < 3 → D (ab_pI 19 p + 1) k = h (8 + 4 * p + 1 + k)) ∧
  (∀ e, 0 ≤ e → e < 6 → bb_AB D (ab_bI 19 e)) ∧
  (∀ e, 0 ≤ e → e < h 3 → bb_KB D L (ab_bI 19 e) h e (if e < k then h 0 else h 0 - 1)) ∧
  ∀ e, h 3 ≤ e → e < 6 → bb_NB D L (ab_bI 19 e)
theorem bb_PK_start {D : Nat → Int → Int} {L : Nat → Int → Int64} {c : Int} {g : Int → Int} (hw : bb_WS c g) (hk : bb_KS D L 19 g) : bb_PK (ab_u D 19 3 (D 19 3 + 1)) L (bb_g1 g 0 (g 0 + 1)) 0 := by
  obtain ⟨⟨q2, q3, q4, q5, q6, q7, q8, q9⟩, kp, ka, kb, kn⟩ := hk
  have hrow : ∀ i, i ≠ 19 → ab_u D 19 3 (D 19 3 + 1) i = D i := fun i hi => ab_u_row hi
  have lo : ∀ k, k ≠ 0 → bb_g1 g 0 (g 0 + 1) k = g k := fun k hk => bb_g1_ne hk
  have n := bb_WS_n hw
  refine ⟨⟨?_, ?_, ?_, ?_, ?_, ?_, ?_, ?_⟩, fun p p0 p1 => ?_, fun e a d => ?_, fun e a d => ?_, fun e a d => ?_⟩
  · rw [ab_u_ne (.inr (by decide)), lo 3 (by omega), q2]
  · rw [ab_u_eq, bb_g1_eq, q3]
  · rw [ab_u_ne (.inr (by decide)), lo 1 (by omega), q4]
  · rw [ab_u_ne (.inr (by decide)), lo 2 (by omega), q5]
  · rw [ab_u_ne (.inr (by decide)), lo 4 (by omega), q6]
  · rw [ab_u_ne (.inr (by decide)), lo 5 (by omega), q7]
  · rw [ab_u_ne (.inr (by decide)), lo 6 (by omega), q8]
  · rw [ab_u_ne (.inr (by decide)), lo 7 (by omega), q9]
  · have eq := bb_pI_e 19 p
    rw [hrow _ (by omega), hrow _ (by omega), lo _ (by omega)]
    refine ⟨(kp p p0 p1).1, fun k k0 k1 => ?_⟩
    rw [lo _ (by omega)]
    exact (kp p p0 p1).2 k k0 k1
  · have e9 := bb_bI_e 19 e
    exact bb_AB_r (ka e a d) (fun i x y => hrow i (by omega))
  · have e9 := bb_bI_e 19 e
    rw [lo 3 (by omega)] at d
    rw [if_neg (by omega), bb_g1_eq, show g 0 + 1 - 1 = g 0 by omega]
    exact bb_KB_congr (fun i x y => ⟨hrow i (by omega), rfl⟩) (fun w x y => (bb_R_lo a x (by omega)).symm) (bb_WB_n (bb_WS_W hw a d)).2.2.2.1.2 (kb e a d)
  · have e9 := bb_bI_e 19 e
    rw [lo 3 (by omega)] at a
    exact bb_NB_fr (fun i x y => ⟨hrow i (by omega), rfl⟩) (kn e a d)
theorem bb_PK_end {D : Nat → Int → Int} {L : Nat → Int → Int64} {h : Int → Int} {k : Int} (hk : h 3 ≤ k) (hp : bb_PK D L h k) : bb_KS D L 19 h := by
  obtain ⟨h1, kp, ka, kb, kn⟩ := hp
  refine ⟨h1, kp, ka, fun e a d => ?_, kn⟩
  have := kb e a d
  rw [if_pos (by omega)] at this
  exact this
/-- one more book through: its minutes; and whether it is gathered again -/
theorem bb_PK_step {D D' : Nat → Int → Int} {L : Nat → Int → Int64} {c : Int} {h : Int → Int} {k : Int} (hw : bb_WS c h) (k0 : 0 ≤ k) (k1 : k < h 3) (hp : bb_PK D L h k) (hrow : ∀ i, i ≠ 19 → i ≠ ab_bI 19 k → D' i = D i)
    (hs : ∀ j, j ≠ 7 → D' 19 j = D 19 j) (hc : ∀ j, j = 0 ∨ j = 1 ∨ j = 3 ∨ j = 5 → D' (ab_bI 19 k) j = D (ab_bI 19 k) j) (h7 : D' (ab_bI 19 k) 7 = bb_nd h k (h 0))
    (hl : bb_R h k 2 = 1 ∧ bb_nd h k (h 0) = 0 → D' 19 7 = D 19 7 + D (ab_bI 19 k) 4 ∧ D' (ab_bI 19 k) 2 = 0 ∧ D' (ab_bI 19 k) 4 = 0 ∧ D' (ab_bI 19 k) 6 = -1)
    (hn : ¬ (bb_R h k 2 = 1 ∧ bb_nd h k (h 0) = 0) → D' 19 7 = D 19 7 ∧ D' (ab_bI 19 k) 2 = D (ab_bI 19 k) 2 ∧ D' (ab_bI 19 k) 4 = D (ab_bI 19 k) 4 ∧ D' (ab_bI 19 k) 6 = D (ab_bI 19 k) 6) : bb_PK D' L (bb_mq h k) (k + 1) := by
  obtain ⟨⟨q2, q3, q4, q5, q6, q7, q8, q9⟩, kp, ka, kb, kn⟩ := hp
  have n := bb_WS_n hw
  have lo : ∀ q, q < 16 → q ≠ 5 → bb_mq h k q = h q := fun q a d => bb_mq_lo k0 a d
  have eB := bb_bI_e 19 k
  have kk := kb k k0 k1
  rw [if_neg (by omega)] at kk
  have hb9 := bb_WS_W hw k0 k1
  have hn9 := bb_WB_n hb9
  have hR : ∀ e w, 0 ≤ e → 0 ≤ w → w < 51 → (e ≠ k ∨ (w ≠ 2 ∧ w ≠ 4 ∧ w ≠ 5 ∧ w ≠ 6)) → bb_R (bb_mq h k) e w = bb_R h e w := fun e w e0 w0 w1 hx => by
    by_cases hl9 : bb_R h k 2 = 1 ∧ bb_nd h k (h 0) = 0
    · rw [bb_mq_R e0 k0 w0 w1 hl9, if_neg (by omega), if_neg (by omega)]
    · have e : bb_mq h k = h := if_neg hl9
      rw [e]
  have h5 : D' 19 7 = bb_mq h k 5 := by
    by_cases hl9 : bb_R h k 2 = 1 ∧ bb_nd h k (h 0) = 0
    · rw [(hl hl9).1, q7, kk.1.2.2.2.2.1]
      unfold bb_mq
      rw [if_pos hl9, bb_g1_ne (by omega), bb_g1_ne (by omega), bb_g1_ne (by omega), bb_g1_ne (by omega), bb_g1_eq]
    · have e : bb_mq h k = h := if_neg hl9
      rw [(hn hl9).1, q7, e]
  refine ⟨⟨?_, ?_, ?_, ?_, ?_, h5, ?_, ?_⟩, fun p p0 p1 => ?_, fun e a d => ?_, fun e a d => ?_, fun e a d => ?_⟩
  · rw [hs 2 (by omega), lo 3 (by omega) (by omega), q2]
  · rw [hs 3 (by omega), lo 0 (by omega) (by omega), q3]
  · rw [hs 4 (by omega), lo 1 (by omega) (by omega), q4]
  · rw [hs 5 (by omega), lo 2 (by omega) (by omega), q5]
  · rw [hs 6 (by omega), lo 4 (by omega) (by omega), q6]
  · rw [hs 8 (by omega), lo 6 (by omega) (by omega), q8]
  · rw [hs 9 (by omega), lo 7 (by omega) (by omega), q9]
  · have eq := bb_pI_e 19 p
    rw [hrow _ (by omega) (by omega), hrow _ (by omega) (by omega), lo _ (by omega) (by omega)]
    refine ⟨(kp p p0 p1).1, fun j k0 k1 => ?_⟩
    rw [lo _ (by omega) (by omega)]
    exact (kp p p0 p1).2 j k0 k1
  · have e9 := bb_bI_e 19 e
    exact bb_AB_r (ka e a d) (fun i x y => hrow i (by omega) (by omega))
  · rw [lo 3 (by omega) (by omega)] at d
    rw [lo 0 (by omega) (by omega)]
    have e9 := bb_bI_e 19 e
    by_cases he : e = k
    · subst he
      rw [if_pos (by omega)]
      refine bb_KB_f hn9.2.2.2.1.2 kk (fun i a d => ⟨hrow i (by omega) (by omega), rfl⟩) (hc 0 (by omega)) (hc 1 (by omega)) (hc 3 (by omega)) (hc 5 (by omega)) (fun w w0 w1 a2 a4 a5 a6 => hR e w a w0 w1 (.inr ⟨a2, a4, a5, a6⟩)) ?_ ?_ ?_ ?_
      all_goals by_cases hl9 : bb_R h e 2 = 1 ∧ bb_nd h e (h 0) = 0
      · rw [(hl hl9).2.1, bb_mq_R a k0 (by omega) (by omega) hl9, if_pos (by omega)]
      · have e : bb_mq h e = h := if_neg hl9
        rw [(hn hl9).2.1, e]; exact kk.1.2.2.1
      · rw [(hl hl9).2.2.1, bb_mq_R a k0 (by omega) (by omega) hl9, if_pos (by omega)]
      · have e : bb_mq h e = h := if_neg hl9
        rw [(hn hl9).2.2.1, e]; exact kk.1.2.2.2.2.1
      · rw [(hl hl9).2.2.2, bb_mq_R a k0 (by omega) (by omega) hl9, if_neg (by omega), if_pos (by omega)]
      · have e : bb_mq h e = h := if_neg hl9
        rw [(hn hl9).2.2.2, e]; exact kk.1.2.2.2.2.2
      · rw [h7, hl9.2]
        unfold bb_nd
        rw [bb_mq_R a k0 (by omega) (by omega) hl9, if_neg (c := e = e ∧ ((5 : Int) = 4 ∨ (5 : Int) = 2 ∨ (5 : Int) = 6)) (by omega), if_pos (c := e = e ∧ (5 : Int) = 5) (by omega), if_pos (by omega)]
      · have e : bb_mq h e = h := if_neg hl9
        rw [h7, e]
    · have h8 := kb e a d
      have hx : (if e < k + 1 then h 0 else h 0 - 1) = if e < k then h 0 else h 0 - 1 := by
        by_cases h9 : e < k
        · rw [if_pos h9, if_pos (by omega)]
        · rw [if_neg h9, if_neg (by omega)]
      rw [hx]
      exact bb_KB_congr (fun i x y => ⟨hrow i (by omega) (by omega), rfl⟩) (fun w x y => (hR e w a x y (.inl he)).symm) (bb_WB_n (bb_WS_W hw a d)).2.2.2.1.2 h8
  · rw [lo 3 (by omega) (by omega)] at a
    have e9 := bb_bI_e 19 e
    exact bb_NB_fr (fun i x y => ⟨hrow i (by omega) (by omega), rfl⟩) (kn e a d)
theorem bb_l257 {K : ab_Kt} {D : Nat → Int → Int} {L : Nat → Int → Int64} {z : ab_Z} {c : Int} {h : Int → Int} (hw : bb_WS c h) (k : Nat) (n : Int) (x3 : Option Value) (hk : (k : Int) ≤ h 3) (hp : bb_PK D L (bb_mN h k).2 k) (hn : n = (bb_mN h k).1) : ∃ D', ab_ev K 257 14 [some (.ref 19), some (.int (ab_I n)), some (.int (ab_I k)), x3] [] (ab_mk D L z) = some (.inl (some (.int (ab_I ((bb_mN h (h 3).toNat).1)))), ab_mk D' L z) ∧ bb_KS D' L 19 (bb_mN h (h 3).toNat).2 ∧ ∀ i, (i < 19 ∨ 62 ≤ i) → D' i = D i := by
  obtain ⟨i1, i2, i3⟩ := bb_W_mN hw k hk
  have hsp := ab_sp0
  have m := bb_WS_n i1
  rw [ab_e257_14]
  by_cases hx : h 3 ≤ k
  · have ek : (h 3).toNat = k := by omega
    have q2 := hp.1.1
    refine ⟨D, ?_, ?_, fun i _ => rfl⟩
    · simp (discharger := first | assumption | exact True.intro | exact not_false | (refine ab_gK ?_; with_unfolding_all rfl) | exact ab_rgI (by omega) (by omega) | omega) only [q2, i2, ab_e257_0, ab_e257_1, ab_e257_2, ab_e257_3, ab_e257_4, ab_e257_7, ab_e257_8, ab_e257_9, ab_e257_12, ab_e257_13, ab_e257_15, ab_e257_16, ab_e257_19, ab_e257_22, ab_e257_23, ab_e257_26, ab_e257_27, ab_e257_28, ab_e257_29, ab_e257_30, ab_e257_33, ab_e257_36, ab_e257_37, ab_e257_38, ab_e257_41, ab_e257_42, ab_e257_43, ab_e257_46, ab_e257_47, ab_e257_50, ab_e257_51, ab_e257_54, ab_e257_55, ab_e257_58, ab_e257_61, ab_e257_62, ab_e257_63, ab_e257_66, ab_e257_67, ab_e257_70, ab_e257_71, ab_e257_74, ab_e257_75, ab_e257_78, ab_e257_81, ab_e257_84, ab_e257_87, ab_e257_88, ab_br_t, ab_br_f, ab_re_v (ab_zz _), ab_re_n (ab_zz _)]
      rw [ek, hn]
    · rw [ek]
      exact bb_PK_end (by omega) hp
  · have k0 : (0 : Int) ≤ k := by omega
    have k1 : (k : Int) < (bb_mN h k).2 3 := by omega
    have k6 : (k : Int) < 6 := by omega
    have hb9 := bb_WS_W i1 k0 k1
    have hn9 := bb_WB_n hb9
    have hbk := ab_bk_bI hsp k0 k6
    have eB := bb_bI_e 19 (k : Int)
    have kk := hp.2.2.2.1 k k0 k1
    rw [if_neg (by omega)] at kk
    obtain ⟨⟨q2, q3, q4, q5, q6, q7, q8, q9⟩, -, -, -, -⟩ := id hp
    obtain ⟨⟨f0, f1, f2, f3, f4, f6⟩, f7, f5, -, -⟩ := id kk
    have hq : (bb_mN h (k + 1)).2 = bb_mq (bb_mN h k).2 k := rfl
    have hc : (bb_mN h (k + 1)).1 = (bb_mN h k).1 + bb_mc (bb_mN h k).2 k := rfl
    have nsB : 19 ≠ ab_bI 19 (k : Int) := by omega
    have nBs : ab_bI 19 (k : Int) ≠ 19 := by omega
    have c4 := f4
    have nd0 : 0 ≤ bb_nd (bb_mN h k).2 k ((bb_mN h k).2 0 - 1) ∧ bb_nd (bb_mN h k).2 k ((bb_mN h k).2 0 - 1) ≤ 31 := by unfold bb_nd; omega
    have nd1 : bb_nd (bb_mN h k).2 k ((bb_mN h k).2 0) = if 0 < bb_nd (bb_mN h k).2 k ((bb_mN h k).2 0 - 1) then bb_nd (bb_mN h k).2 k ((bb_mN h k).2 0 - 1) - 1 else 0 := by unfold bb_nd; omega
    have main : ∀ (n' : Int) (D1 : Nat → Int → Int), bb_PK D1 L (bb_mq (bb_mN h k).2 k) (k + 1) → n' = n + bb_mc (bb_mN h k).2 k → (∀ i, (i < 19 ∨ 62 ≤ i) → D1 i = D i) → ∃ D', ab_ev K 257 14 [some (.ref 19), some (.int (ab_I n')), some (.int (ab_I ((k : Int) + 1))), some (.ref (ab_bI 19 (k : Int)))] [] (ab_mk D1 L z) = some (.inl (some (.int (ab_I ((bb_mN h (h 3).toNat).1)))), ab_mk D' L z) ∧ bb_KS D' L 19 (bb_mN h (h 3).toNat).2 ∧ ∀ i, (i < 19 ∨ 62 ≤ i) → D' i = D i := fun n' D1 hP hn' hF => by
      obtain ⟨D', a1, a2, a3⟩ := bb_l257 (K := K) (D := D1) (L := L) (z := z) hw (k + 1) n' (some (.ref (ab_bI 19 (k : Int)))) (by omega) hP (by rw [hn', hn, hc])
      exact ⟨D', a1, a2, fun i hi => (a3 i hi).trans (hF i hi)⟩
    by_cases h0 : 0 < D (ab_bI 19 (k : Int)) 7
    · by_cases hl : bb_R (bb_mN h k).2 k 2 = 1 ∧ bb_nd (bb_mN h k).2 k ((bb_mN h k).2 0) = 0
      · have h1 : D (ab_bI 19 (k : Int)) 7 - 1 = 0 := by omega
        obtain ⟨D1, hD1⟩ : ∃ x, x = ab_u (ab_u (ab_u (ab_u (ab_u D (ab_bI 19 (k : Int)) 7 (D (ab_bI 19 (k : Int)) 7 - 1)) 19 7 (D 19 7 + D (ab_bI 19 (k : Int)) 4)) (ab_bI 19 (k : Int)) 2 0) (ab_bI 19 (k : Int)) 4 0) (ab_bI 19 (k : Int)) 6 (-1) := ⟨_, rfl⟩
        have mc : bb_mc (bb_mN h k).2 k = 1 := if_pos hl
        obtain ⟨D', a1, a2, a3⟩ := main (n + 1) D1 (bb_PK_step i1 k0 k1 hp (fun i h1 h2 => by rw [hD1, ab_u_row h2, ab_u_row h2, ab_u_row h2, ab_u_row h1, ab_u_row h2]) (fun j hj => by rw [hD1, ab_u_row nsB, ab_u_row nsB, ab_u_row nsB, ab_u_ne (.inr hj), ab_u_row nsB]) (fun j hj => by rw [hD1, ab_u_ne (.inr (by omega)), ab_u_ne (.inr (by omega)), ab_u_ne (.inr (by omega)), ab_u_row nBs, ab_u_ne (.inr (by omega))]) (by rw [hD1, ab_u_ne (.inr (by decide)), ab_u_ne (.inr (by decide)), ab_u_ne (.inr (by decide)), ab_u_row nBs, ab_u_eq]; omega) (fun _ => ⟨by rw [hD1, ab_u_row nsB, ab_u_row nsB, ab_u_row nsB, ab_u_eq], by rw [hD1, ab_u_ne (.inr (by decide)), ab_u_ne (.inr (by decide)), ab_u_eq], by rw [hD1, ab_u_ne (.inr (by decide)), ab_u_eq], by rw [hD1, ab_u_eq]⟩) (fun x => absurd hl x)) (by rw [mc]) (fun i hi => by rw [hD1, ab_u_row (by omega), ab_u_row (by omega), ab_u_row (by omega), ab_u_row (by omega), ab_u_row (by omega)])
        refine ⟨D', ?_, a2, a3⟩
        rw [hD1] at a1
        simp (discharger := first | assumption | exact True.intro | exact not_false | (refine ab_gK ?_; with_unfolding_all rfl) | exact ab_rgI (by omega) (by omega) | omega) only [bb_y275 hbk, ab_u_eq, ab_u_row nsB, ab_u_row nBs, h1, ab_u_ne, ab_e257_0, ab_e257_1, ab_e257_2, ab_e257_3, ab_e257_4, ab_e257_7, ab_e257_8, ab_e257_9, ab_e257_12, ab_e257_13, ab_e257_15, ab_e257_16, ab_e257_19, ab_e257_22, ab_e257_23, ab_e257_26, ab_e257_27, ab_e257_28, ab_e257_29, ab_e257_30, ab_e257_33, ab_e257_36, ab_e257_37, ab_e257_38, ab_e257_41, ab_e257_42, ab_e257_43, ab_e257_46, ab_e257_47, ab_e257_50, ab_e257_51, ab_e257_54, ab_e257_55, ab_e257_58, ab_e257_61, ab_e257_62, ab_e257_63, ab_e257_66, ab_e257_67, ab_e257_70, ab_e257_71, ab_e257_74, ab_e257_75, ab_e257_78, ab_e257_81, ab_e257_84, ab_e257_87, ab_e257_88, ab_br_t, ab_br_f, ab_re_v (ab_zz _), ab_re_n (ab_zz _)]
        rw [h1] at a1
        exact a1
      · obtain ⟨D1, hD1⟩ : ∃ x, x = ab_u D (ab_bI 19 (k : Int)) 7 (D (ab_bI 19 (k : Int)) 7 - 1) := ⟨_, rfl⟩
        have mc : bb_mc (bb_mN h k).2 k = 0 := if_neg hl
        obtain ⟨D', a1, a2, a3⟩ := main n D1 (bb_PK_step i1 k0 k1 hp (fun i h1 h2 => by rw [hD1, ab_u_row h2]) (fun j hj => by rw [hD1, ab_u_row nsB]) (fun j hj => by rw [hD1, ab_u_ne (.inr (by omega))]) (by rw [hD1, ab_u_eq]; omega) (fun x => absurd x hl) (fun _ => ⟨by rw [hD1, ab_u_row nsB], by rw [hD1, ab_u_ne (.inr (by decide))], by rw [hD1, ab_u_ne (.inr (by decide))], by rw [hD1, ab_u_ne (.inr (by decide))]⟩)) (by rw [mc, Int.add_zero]) (fun i hi => by rw [hD1, ab_u_row (by omega)])
        refine ⟨D', ?_, a2, a3⟩
        rw [hD1] at a1
        by_cases h2 : D (ab_bI 19 (k : Int)) 2 = 1
        · have h3 : ¬ D (ab_bI 19 (k : Int)) 7 - 1 = 0 := fun x => hl ⟨by omega, by omega⟩
          simp (discharger := first | assumption | exact True.intro | exact not_false | (refine ab_gK ?_; with_unfolding_all rfl) | exact ab_rgI (by omega) (by omega) | omega) only [ab_u_eq, ab_u_ne, ab_e257_0, ab_e257_1, ab_e257_2, ab_e257_3, ab_e257_4, ab_e257_7, ab_e257_8, ab_e257_9, ab_e257_12, ab_e257_13, ab_e257_15, ab_e257_16, ab_e257_19, ab_e257_22, ab_e257_23, ab_e257_26, ab_e257_27, ab_e257_28, ab_e257_29, ab_e257_30, ab_e257_33, ab_e257_36, ab_e257_37, ab_e257_38, ab_e257_41, ab_e257_42, ab_e257_43, ab_e257_46, ab_e257_47, ab_e257_50, ab_e257_51, ab_e257_54, ab_e257_55, ab_e257_58, ab_e257_61, ab_e257_62, ab_e257_63, ab_e257_66, ab_e257_67, ab_e257_70, ab_e257_71, ab_e257_74, ab_e257_75, ab_e257_78, ab_e257_81, ab_e257_84, ab_e257_87, ab_e257_88, ab_br_t, ab_br_f, ab_re_v (ab_zz _), ab_re_n (ab_zz _)]
          exact a1
        · skip
          simp (discharger := first | assumption | exact True.intro | exact not_false | (refine ab_gK ?_; with_unfolding_all rfl) | exact ab_rgI (by omega) (by omega) | omega) only [ab_u_eq, ab_u_ne, ab_e257_0, ab_e257_1, ab_e257_2, ab_e257_3, ab_e257_4, ab_e257_7, ab_e257_8, ab_e257_9, ab_e257_12, ab_e257_13, ab_e257_15, ab_e257_16, ab_e257_19, ab_e257_22, ab_e257_23, ab_e257_26, ab_e257_27, ab_e257_28, ab_e257_29, ab_e257_30, ab_e257_33, ab_e257_36, ab_e257_37, ab_e257_38, ab_e257_41, ab_e257_42, ab_e257_43, ab_e257_46, ab_e257_47, ab_e257_50, ab_e257_51, ab_e257_54, ab_e257_55, ab_e257_58, ab_e257_61, ab_e257_62, ab_e257_63, ab_e257_66, ab_e257_67, ab_e257_70, ab_e257_71, ab_e257_74, ab_e257_75, ab_e257_78, ab_e257_81, ab_e257_84, ab_e257_87, ab_e257_88, ab_br_t, ab_br_f, ab_re_v (ab_zz _), ab_re_n (ab_zz _)]
          exact a1
    · by_cases hl : bb_R (bb_mN h k).2 k 2 = 1 ∧ bb_nd (bb_mN h k).2 k ((bb_mN h k).2 0) = 0
      · have h1 : D (ab_bI 19 (k : Int)) 7 = 0 := by omega
        obtain ⟨D1, hD1⟩ : ∃ x, x = ab_u (ab_u (ab_u (ab_u D 19 7 (D 19 7 + D (ab_bI 19 (k : Int)) 4)) (ab_bI 19 (k : Int)) 2 0) (ab_bI 19 (k : Int)) 4 0) (ab_bI 19 (k : Int)) 6 (-1) := ⟨_, rfl⟩
        have mc : bb_mc (bb_mN h k).2 k = 1 := if_pos hl
        obtain ⟨D', a1, a2, a3⟩ := main (n + 1) D1 (bb_PK_step i1 k0 k1 hp (fun i h1 h2 => by rw [hD1, ab_u_row h2, ab_u_row h2, ab_u_row h2, ab_u_row h1]) (fun j hj => by rw [hD1, ab_u_row nsB, ab_u_row nsB, ab_u_row nsB, ab_u_ne (.inr hj)]) (fun j hj => by rw [hD1, ab_u_ne (.inr (by omega)), ab_u_ne (.inr (by omega)), ab_u_ne (.inr (by omega)), ab_u_row nBs]) (by rw [hD1, ab_u_ne (.inr (by decide)), ab_u_ne (.inr (by decide)), ab_u_ne (.inr (by decide)), ab_u_row nBs]; omega) (fun _ => ⟨by rw [hD1, ab_u_row nsB, ab_u_row nsB, ab_u_row nsB, ab_u_eq], by rw [hD1, ab_u_ne (.inr (by decide)), ab_u_ne (.inr (by decide)), ab_u_eq], by rw [hD1, ab_u_ne (.inr (by decide)), ab_u_eq], by rw [hD1, ab_u_eq]⟩) (fun x => absurd hl x)) (by rw [mc]) (fun i hi => by rw [hD1, ab_u_row (by omega), ab_u_row (by omega), ab_u_row (by omega), ab_u_row (by omega)])
        refine ⟨D', ?_, a2, a3⟩
        rw [hD1] at a1
        simp (discharger := first | assumption | exact True.intro | exact not_false | (refine ab_gK ?_; with_unfolding_all rfl) | exact ab_rgI (by omega) (by omega) | omega) only [bb_y275 hbk, ab_u_row nBs, ab_e257_0, ab_e257_1, ab_e257_2, ab_e257_3, ab_e257_4, ab_e257_7, ab_e257_8, ab_e257_9, ab_e257_12, ab_e257_13, ab_e257_15, ab_e257_16, ab_e257_19, ab_e257_22, ab_e257_23, ab_e257_26, ab_e257_27, ab_e257_28, ab_e257_29, ab_e257_30, ab_e257_33, ab_e257_36, ab_e257_37, ab_e257_38, ab_e257_41, ab_e257_42, ab_e257_43, ab_e257_46, ab_e257_47, ab_e257_50, ab_e257_51, ab_e257_54, ab_e257_55, ab_e257_58, ab_e257_61, ab_e257_62, ab_e257_63, ab_e257_66, ab_e257_67, ab_e257_70, ab_e257_71, ab_e257_74, ab_e257_75, ab_e257_78, ab_e257_81, ab_e257_84, ab_e257_87, ab_e257_88, ab_br_t, ab_br_f, ab_re_v (ab_zz _), ab_re_n (ab_zz _)]
        exact a1
      · have mc : bb_mc (bb_mN h k).2 k = 0 := if_neg hl
        obtain ⟨D', a1, a2, a3⟩ := main n D (bb_PK_step i1 k0 k1 hp (fun i h1 h2 => rfl) (fun j hj => rfl) (fun j hj => rfl) (by omega) (fun x => absurd x hl) (fun _ => ⟨rfl, rfl, rfl, rfl⟩)) (by rw [mc, Int.add_zero]) (fun i hi => rfl)
        refine ⟨D', ?_, a2, a3⟩
        by_cases h2 : D (ab_bI 19 (k : Int)) 2 = 1
        · have h3 : ¬ D (ab_bI 19 (k : Int)) 7 = 0 := fun x => hl ⟨by omega, by omega⟩
          omega
        · skip
          simp (discharger := first | assumption | exact True.intro | exact not_false | (refine ab_gK ?_; with_unfolding_all rfl) | exact ab_rgI (by omega) (by omega) | omega) only [ab_e257_0, ab_e257_1, ab_e257_2, ab_e257_3, ab_e257_4, ab_e257_7, ab_e257_8, ab_e257_9, ab_e257_12, ab_e257_13, ab_e257_15, ab_e257_16, ab_e257_19, ab_e257_22, ab_e257_23, ab_e257_26, ab_e257_27, ab_e257_28, ab_e257_29, ab_e257_30, ab_e257_33, ab_e257_36, ab_e257_37, ab_e257_38, ab_e257_41, ab_e257_42, ab_e257_43, ab_e257_46, ab_e257_47, ab_e257_50, ab_e257_51, ab_e257_54, ab_e257_55, ab_e257_58, ab_e257_61, ab_e257_62, ab_e257_63, ab_e257_66, ab_e257_67, ab_e257_70, ab_e257_71, ab_e257_74, ab_e257_75, ab_e257_78, ab_e257_81, ab_e257_84, ab_e257_87, ab_e257_88, ab_br_t, ab_br_f, ab_re_v (ab_zz _), ab_re_n (ab_zz _)]
          exact a1
termination_by (h 3).toNat - k
decreasing_by all_goals omega

theorem bb_y257 {K : ab_Kt} {D : Nat → Int → Int} {L : Nat → Int → Int64} {z : ab_Z} {c : Int} {g : Int → Int} (hw : bb_WS c g) (hk : bb_KS D L 19 g) (hc : c + 1 ≤ 50000000) : ∃ D', ab_cal K 257 [.ref 19] (ab_mk D L z) = some (.inl (some (.int (ab_I ((bb_m1 g).1)))), ab_mk D' L z) ∧ bb_KS D' L 19 (bb_m1 g).2 ∧ ∀ i, (i < 19 ∨ 62 ≤ i) → D' i = D i := by
  have n := bb_WS_n hw
  have hsp := ab_sp0
  have e3 : bb_g1 g 0 (g 0 + 1) 3 = g 3 := bb_g1_ne (by omega)
  obtain ⟨D', a1, a2, a3⟩ := bb_l257 (K := K) (D := ab_u D 19 3 (D 19 3 + 1)) (L := L) (z := z) (bb_W_g0 hw hc) 0 0 none (by rw [e3]; omega) (bb_PK_start hw hk) rfl
  rw [e3] at a1 a2
  refine ⟨D', ?_, a2, fun i hi => (a3 i hi).trans (ab_u_row (by omega))⟩
  simp (discharger := first | assumption | exact True.intro | exact not_false | (refine ab_gK ?_; with_unfolding_all rfl) | exact ab_rgI (by omega) (by omega) | omega) only [ab_a257, ab_e257_0, ab_e257_1, ab_e257_2, ab_e257_3, ab_e257_4, ab_e257_7, ab_e257_8, ab_e257_9, ab_e257_12, ab_e257_13, ab_e257_15, ab_e257_16, ab_e257_19, ab_e257_22, ab_e257_23, ab_e257_26, ab_e257_27, ab_e257_28, ab_e257_29, ab_e257_30, ab_e257_33, ab_e257_36, ab_e257_37, ab_e257_38, ab_e257_41, ab_e257_42, ab_e257_43, ab_e257_46, ab_e257_47, ab_e257_50, ab_e257_51, ab_e257_54, ab_e257_55, ab_e257_58, ab_e257_61, ab_e257_62, ab_e257_63, ab_e257_66, ab_e257_67, ab_e257_70, ab_e257_71, ab_e257_74, ab_e257_75, ab_e257_78, ab_e257_81, ab_e257_84, ab_e257_87, ab_e257_88, ab_br_t, ab_br_f, ab_re_v (ab_zz _), ab_re_n (ab_zz _)]
  exact a1

theorem bb_l216 {K : ab_Kt} {D : Nat → Int → Int} {L : Nat → Int → Int64} {z : ab_Z} {c m : Int} {g : Int → Int} (hw : bb_WS c g) (m1 : m ≤ 60) (hc : c + 1200 ≤ 50000000) (k : Nat) (n : Int) (hk : (k : Int) ≤ m) (hK : bb_KS D L 19 (bb_pN g k).2) (hn : n = (bb_pN g k).1) : ∃ D', ab_ev K 216 21 [some (.ref 18), some (.int (ab_I m)), some (.int (ab_I n)), some (.int (ab_I k))] [] (ab_mk D L z) = some (.inl (some (.int (ab_I ((bb_pN g m.toNat).1)))), ab_mk D' L z) ∧ bb_KS D' L 19 (bb_pN g m.toNat).2 ∧ ∀ i, (i < 19 ∨ 62 ≤ i) → D' i = D i := by
  have hsp := ab_sp0
  rw [ab_e216_21]
  by_cases hx : m ≤ k
  · have ek : m.toNat = k := by omega
    refine ⟨D, ?_, by rw [ek]; exact hK, fun i _ => rfl⟩
    simp (discharger := first | assumption | exact True.intro | exact not_false | (refine ab_gK ?_; with_unfolding_all rfl) | exact ab_rgI (by omega) (by omega) | omega) only [ab_e216_0, ab_e216_1, ab_e216_2, ab_e216_4, ab_e216_7, ab_e216_10, ab_e216_11, ab_e216_12, ab_e216_13, ab_e216_16, ab_e216_17, ab_e216_18, ab_e216_19, ab_e216_20, ab_e216_22, ab_e216_23, ab_e216_26, ab_e216_27, ab_e216_28, ab_e216_31, ab_e216_34, ab_e216_35, ab_e216_36, ab_e216_39, ab_e216_42, ab_e216_43, ab_br_t, ab_br_f, ab_re_v (ab_zz _), ab_re_n (ab_zz _)]
    rw [ek, hn]
  · have i1 := (bb_W_pN hw k (by omega)).1
    obtain ⟨D1, a1, a2, a3⟩ := bb_y257 (K := K) (z := z) i1 hK (by omega)
    obtain ⟨D', b1, b2, b3⟩ := bb_l216 (K := K) (D := D1) (L := L) (z := z) hw m1 hc (k + 1) (n + (bb_m1 (bb_pN g k).2).1) (by omega) a2 (by rw [hn]; rfl)
    refine ⟨D', ?_, b2, fun i hi => (b3 i hi).trans (a3 i hi)⟩
    simp (discharger := first | assumption | exact True.intro | exact not_false | (refine ab_gK ?_; with_unfolding_all rfl) | exact ab_rgI (by omega) (by omega) | omega) only [a1, ab_e216_0, ab_e216_1, ab_e216_2, ab_e216_4, ab_e216_7, ab_e216_10, ab_e216_11, ab_e216_12, ab_e216_13, ab_e216_16, ab_e216_17, ab_e216_18, ab_e216_19, ab_e216_20, ab_e216_22, ab_e216_23, ab_e216_26, ab_e216_27, ab_e216_28, ab_e216_31, ab_e216_34, ab_e216_35, ab_e216_36, ab_e216_39, ab_e216_42, ab_e216_43, ab_br_t, ab_br_f, ab_re_v (ab_zz _), ab_re_n (ab_zz _)]
    exact b1
termination_by m.toNat - k
decreasing_by all_goals omega

theorem bb_cno216 {K : ab_Kt} {D : Nat → Int → Int} {L : Nat → Int → Int64} {z : ab_Z} {c : Int} {g : Int → Int} (hw : bb_WS c g) (hk : bb_KS D L 19 g) {m : Int} (hc9 : c + 1200 ≤ 50000000) (hm : ab_rg m) {r d : Int} (h : bb_sp_pass g m = .inl (r, d)) : ab_cal K 216 [.ref 18, .int (ab_I m)] (ab_mk D L z) = some (.inl (some (.int (ab_I (-1)))), ab_mk (bb_cref D r d) L z) := by
  have n := bb_WS_n hw
  have hsp := ab_sp0
  obtain ⟨⟨q2, q3, q4, q5, q6, q7, q8, q9⟩, kp, ka, kb, kn⟩ := id hk
  unfold bb_sp_pass at h
  split at h
  · rename_i h1
    cases h
    simp (discharger := first | assumption | exact True.intro | exact not_false | (refine ab_gK ?_; with_unfolding_all rfl) | exact ab_rgI (by omega) (by omega) | omega) only [ab_a216, bb_y255, bb_y256, if_neg h1, ab_e216_0, ab_e216_1, ab_e216_2, ab_e216_4, ab_e216_7, ab_e216_10, ab_e216_11, ab_e216_12, ab_e216_13, ab_e216_16, ab_e216_17, ab_e216_18, ab_e216_19, ab_e216_20, ab_e216_21, ab_e216_22, ab_e216_23, ab_e216_26, ab_e216_27, ab_e216_28, ab_e216_31, ab_e216_34, ab_e216_35, ab_e216_36, ab_e216_39, ab_e216_42, ab_e216_43, ab_br_t, ab_br_f, ab_re_v (ab_zz _), ab_re_n (ab_zz _)]
  · exact absurd h Sum.inr_ne_inl

theorem bb_cok216 {K : ab_Kt} {D : Nat → Int → Int} {L : Nat → Int → Int64} {z : ab_Z} {c : Int} {g : Int → Int} (hw : bb_WS c g) (hk : bb_KS D L 19 g) {m : Int} (hc9 : c + 1200 ≤ 50000000) (hm : ab_rg m) {v : Int} {g' : Int → Int} (h : bb_sp_pass g m = .inr (v, g')) : ∃ D' L', ab_cal K 216 [.ref 18, .int (ab_I m)] (ab_mk D L z) = some (.inl (some (.int (ab_I v))), ab_mk D' L' z) ∧ bb_KS D' L' 19 g' ∧ bb_FR D L D' L' := by
  have n := bb_WS_n hw
  have hsp := ab_sp0
  obtain ⟨⟨q2, q3, q4, q5, q6, q7, q8, q9⟩, kp, ka, kb, kn⟩ := id hk
  unfold bb_sp_pass at h
  split at h
  · exact absurd h Sum.inl_ne_inr
  · rename_i h1
    have h1 := Decidable.not_not.mp h1
    obtain ⟨hv, hg⟩ := Prod.mk.inj (Sum.inr.inj (h.trans (by rfl) : (Sum.inr ((bb_pN g m.toNat).1, (bb_pN g m.toNat).2) : bb_O) = Sum.inr (v, g')))
    obtain ⟨D', b1, b2, b3⟩ := bb_l216 (K := K) (D := D) (L := L) (z := z) hw h1.2 hc9 0 0 (by omega) hk rfl
    refine ⟨D', L, ?_, by rw [← hg]; exact b2, fun i hi => ⟨b3 i hi, rfl⟩⟩
    rw [← hv]
    simp (discharger := first | assumption | exact True.intro | exact not_false | (refine ab_gK ?_; with_unfolding_all rfl) | exact ab_rgI (by omega) (by omega) | omega) only [ab_a216, bb_y255, if_pos h1, ab_e216_0, ab_e216_1, ab_e216_2, ab_e216_4, ab_e216_7, ab_e216_10, ab_e216_11, ab_e216_12, ab_e216_13, ab_e216_16, ab_e216_17, ab_e216_18, ab_e216_19, ab_e216_20, ab_e216_22, ab_e216_23, ab_e216_26, ab_e216_27, ab_e216_28, ab_e216_31, ab_e216_34, ab_e216_35, ab_e216_36, ab_e216_39, ab_e216_42, ab_e216_43, ab_br_t, ab_br_f, ab_re_v (ab_zz _), ab_re_n (ab_zz _)]
    exact b1

