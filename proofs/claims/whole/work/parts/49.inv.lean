/-! ===== what holds between two calls ===== -/
def bb_cc (n : Int) : Int := 30000 * n + 20
/-- the rows that the model keeps -/
def bb_Fk (D : Nat → Int → Int) : Int → Int → Int := fun j k => D 502 (322 * j + k)
def bb_TX (D : Nat → Int → Int) : Prop := (0 ≤ D 500 12 ∧ D 500 12 ≤ 60) ∧ D 494 1 = D 500 12 ∧ (∀ k, 0 ≤ k → k < D 500 12 → D 495 k = D 505 k ∧ 0 ≤ D 505 k ∧ D 505 k ≤ 65535) ∧ D 17 6 = D 500 13
def bb_LN (D : Nat → Int → Int) (z : ab_Z) : Prop := bb_SB D z ∧ D 497 3 = D 500 15 ∧ D 500 15 ≤ 130 ∧ ∀ j, 0 ≤ j → j < D 500 15 → D z.1 j = D 506 j
def bb_RM (n : Int) (z : ab_Z) : Prop := (z.2.2.2.2.2.1 : Int) ≤ 2000 + 2 * n + z.2.1 ∧ (z.2.2.2.2.2.2 : Int) ≤ 100000 + 20 * n + 2 * z.2.1
def bb_SN (n : Int) (D : Nat → Int → Int) (L : Nat → Int → Int64) : Prop := (D 17 4 = 0 ∨ D 17 4 = 1) ∧ D 500 4 = D 17 4 ∧ (D 17 4 = 1 → bb_KS D L 451 (D 503) ∧ bb_WS (bb_cc n) (D 503))
def bb_RS (D : Nat → Int → Int) : Prop := (D 18 1 = D 500 8 ∧ D 18 2 = D 500 9 ∧ D 18 3 = D 500 10) ∧ D 18 4 = 0 ∧ 0 ≤ D 18 1 ∧ D 18 1 ≤ 15
def bb_HS (n : Int) (D : Nat → Int → Int) (L : Nat → Int → Int64) : Prop := bb_WS (bb_cc n) (D 501) ∧ bb_CH D L (D 501) (bb_Fk D) (D 500 5) ∧ ∀ j, 0 ≤ j → j < D 500 5 → bb_WS (bb_cc n) (bb_Fk D j)
def bb_INV (n : Int) (D : Nat → Int → Int) (L : Nat → Int → Int64) (z : ab_Z) : Prop := (0 ≤ n ∧ n ≤ 512) ∧ bb_HS n D L ∧ bb_SN n D L ∧ bb_RS D ∧ D 500 6 = 0 ∧ bb_TX D ∧ bb_LN D z ∧ bb_RM n z
theorem bb_cc_mono {n : Int} (h : 0 ≤ n ∧ n < 512) : bb_cc n + 1200 ≤ bb_cc (n + 1) ∧ bb_cc n ≤ bb_cc (n + 1) ∧ bb_cc (n + 1) ≤ 50000000 ∧ bb_cc n + 1200 ≤ 50000000 := by unfold bb_cc; omega
theorem bb_CH_congr {D : Nat → Int → Int} {L : Nat → Int → Int64} {c : Int} {g : Int → Int} {F F' : Int → Int → Int} {m : Int} (hF : ∀ j, 0 ≤ j → j < m → bb_WS c (F j)) (hE : ∀ j, 0 ≤ j → j < m → bb_eqg (F j) (F' j)) (h : bb_CH D L g F m) : bb_CH D L g F' m := by
  obtain ⟨h1, h2, h3, h4, h5⟩ := h
  exact ⟨h1, h2, h3, h4, fun j j0 j1 => bb_KS_congr (hE j j0 j1) (hF j j0 j1) (fun i _ _ => ⟨rfl, rfl⟩) (h5 j j0 j1)⟩
theorem bb_kp_eq {f src : Int → Int} {m j : Int} (hm : 0 ≤ m ∧ m ≤ 8) (j0 : 0 ≤ j) (j1 : j < bb_m1k m) : bb_eqg (bb_F1 src (fun j k => f (322 * j + k)) m j) (fun k => bb_kp f src m (322 * j + k)) := by
  intro k k0 k1
  unfold bb_F1 bb_kp
  unfold bb_m1k at j1
  by_cases h8 : m = 8
  · rw [if_pos h8] at j1
    rw [if_pos h8, if_pos h8]
    unfold bb_cp bb_sh
    by_cases j7 : j < 7
    · rw [if_pos j7]
      dsimp only
      rw [if_neg (by omega), if_pos (by omega)]
      congr 1
      omega
    · rw [if_neg j7]
      dsimp only
      rw [if_pos (by omega)]
      congr 1
      omega
  · rw [if_neg h8] at j1
    rw [if_neg h8, if_neg h8]
    unfold bb_cp
    by_cases jm : j < m
    · rw [if_pos jm]
      dsimp only
      rw [if_neg (by omega)]
    · rw [if_neg jm]
      dsimp only
      rw [if_pos (by omega)]
      congr 1
      omega
theorem bb_F1_WS {c c' : Int} {g : Int → Int} {F : Int → Int → Int} {m : Int} (hc : c ≤ c') (hc2 : c' ≤ 50000000) (hw : bb_WS c g) (hF : ∀ j, 0 ≤ j → j < m → bb_WS c (F j)) : ∀ j, 0 ≤ j → j < bb_m1k m → bb_WS c' (bb_F1 g F m j) := by
  intro j j0 j1
  unfold bb_F1
  unfold bb_m1k at j1
  by_cases h8 : m = 8
  · rw [if_pos h8] at j1 ⊢
    by_cases j7 : j < 7
    · rw [if_pos j7]; exact bb_WS_mono hc hc2 (hF (j + 1) (by omega) (by omega))
    · rw [if_neg j7]; exact bb_WS_mono hc hc2 hw
  · rw [if_neg h8] at j1 ⊢
    by_cases jm : j < m
    · rw [if_pos jm]; exact bb_WS_mono hc hc2 (hF j j0 jm)
    · rw [if_neg jm]; exact bb_WS_mono hc hc2 hw
section
variable {n : Int} {D D' : Nat → Int → Int} {L L' : Nat → Int → Int64} {z z' : ab_Z}
theorem bb_SN_fr (hn : 0 ≤ n ∧ n < 512) (h : bb_SN n D L) (h17 : D' 17 = D 17) (h5 : D' 500 4 = D 500 4) (hD : ∀ i, 451 ≤ i → i < 494 → D' i = D i ∧ L' i = L i) (h503 : D' 503 = D 503) : bb_SN (n + 1) D' L' := by
  have cm := bb_cc_mono hn
  obtain ⟨h1, h2, h3⟩ := h
  refine ⟨by rw [h17]; exact h1, by rw [h17, h5]; exact h2, fun h4 => ?_⟩
  rw [h17] at h4
  obtain ⟨h5, h6⟩ := h3 h4
  rw [h503]
  exact ⟨bb_KS_fr h6 (fun i a d => hD i a (by omega)) h5, bb_WS_mono cm.2.1 cm.2.2.1 h6⟩
theorem bb_HS_fr (hn : 0 ≤ n ∧ n < 512) (h : bb_HS n D L) (hD : ∀ i, 19 ≤ i → i < 451 → i ≠ 63 → D' i = D i ∧ L' i = L i) (h5 : D' 500 5 = D 500 5) (h501 : D' 501 = D 501) (h502 : D' 502 = D 502) : bb_HS (n + 1) D' L' := by
  have cm := bb_cc_mono hn
  obtain ⟨h1, h2, h3⟩ := h
  have eF : bb_Fk D' = bb_Fk D := by unfold bb_Fk; rw [h502]
  refine ⟨by rw [h501]; exact bb_WS_mono cm.2.1 cm.2.2.1 h1, ?_, fun j j0 j1 => ?_⟩
  · rw [h501, eF, h5]
    exact bb_CH_fr h1 h3 h2 hD
  · rw [h5] at j1
    rw [eF]
    exact bb_WS_mono cm.2.1 cm.2.2.1 (h3 j j0 j1)
theorem bb_TX_fr (h : bb_TX D) (h494 : D' 494 1 = D 494 1) (h495 : D' 495 = D 495) (h505 : D' 505 = D 505) (h12 : D' 500 12 = D 500 12) (h13 : D' 500 13 = D 500 13) (h17 : D' 17 = D 17) : bb_TX D' := by
  unfold bb_TX
  rw [h494, h495, h505, h12, h13, h17]
  exact h
theorem bb_LN_fr (h : bb_LN D z) (hz1 : z'.1 = z.1) (hz2 : z'.2.1 = z.2.1) (hz3 : z.2.2.2.2.1 ≤ z'.2.2.2.2.1) (h497 : D' 497 = D 497) (hsv : ∀ i, i = 498 ∨ 510 ≤ i → D' i = D i) (h15 : D' 500 15 = D 500 15) (h506 : D' 506 = D 506) : bb_LN D' z' := by
  obtain ⟨⟨⟨h1, h2⟩, h3, h4, h5⟩, h6, h7, h8⟩ := h
  have e : D' z.1 = D z.1 := hsv _ (by omega)
  refine ⟨⟨⟨by rw [hz1]; omega, by rw [hz2]; exact h2⟩, by rw [h497]; exact h3, by rw [h497, hz2]; exact h4, fun j j0 j1 => ?_⟩, by rw [h497, h15]; exact h6, by rw [h15]; exact h7, fun j j0 j1 => ?_⟩
  · rw [hz2] at j1
    rw [hz1, e]; exact h5 j j0 j1
  · rw [h15] at j1
    rw [hz1, e, h506]; exact h8 j j0 j1
/-- a refused change -/
theorem bb_INV_no (hn : n < 512) (h : bb_INV n D L z) {D1 : Nat → Int → Int} {L1 : Nat → Int → Int64} {r d : Int} (hr : 1 ≤ r ∧ r ≤ 15) (hC : bb_CH D1 L1 (D 501) (bb_Fk D) (D 500 5)) (hD : ∀ i, (i < 64 ∨ 451 ≤ i) → D1 i = D i ∧ L1 i = L i) : bb_INV (n + 1) (bb_ref (bb_cref D1 r d) r d) L1 (ab_zc (ab_zx z)) ∧ bb_ref (bb_cref D1 r d) r d 500 7 = 1 := by
  obtain ⟨n1, ⟨w1, w2, w3⟩, hS, ⟨⟨r1, r2, r3⟩, r4, r5⟩, h6, hT, hL, hR⟩ := h
  have n9 : 0 ≤ n ∧ n < 512 := ⟨n1.1, hn⟩
  have cm := bb_cc_mono n9
  have hrow : ∀ i, i ≠ 18 → i ≠ 500 → bb_ref (bb_cref D1 r d) r d i = D1 i := fun i a e => by
    unfold bb_ref bb_cref
    rw [ab_u_row e, ab_u_row e, ab_u_row e, ab_u_row e, ab_u_row a, ab_u_row a, ab_u_row a]
  have x500 : ∀ k, k ≠ 7 → k ≠ 8 → k ≠ 9 → k ≠ 10 → bb_ref (bb_cref D1 r d) r d 500 k = D 500 k := fun k a b c e => by
    unfold bb_ref bb_cref
    rw [ab_u_ne (.inr e), ab_u_ne (.inr c), ab_u_ne (.inr b), ab_u_ne (.inr a), ab_u_row (by decide), ab_u_row (by decide), ab_u_row (by decide), (hD 500 (by omega)).1]
  have x18 : bb_ref (bb_cref D1 r d) r d 18 = bb_cref D1 r d 18 := by
    unfold bb_ref
    rw [ab_u_row (by decide), ab_u_row (by decide), ab_u_row (by decide), ab_u_row (by decide)]
  have hrw : ∀ i, i ≠ 18 → i ≠ 500 → (i < 64 ∨ 451 ≤ i) → bb_ref (bb_cref D1 r d) r d i = D i := fun i a e f => (hrow i a e).trans (hD i f).1
  refine ⟨⟨⟨by omega, by omega⟩, ?_, ?_, ?_, ?_, ?_, ?_, ?_⟩, ?_⟩
  · have e1 : bb_ref (bb_cref D1 r d) r d 501 = D 501 := hrw 501 (by omega) (by omega) (by omega)
    have e2 : bb_Fk (bb_ref (bb_cref D1 r d) r d) = bb_Fk D := by unfold bb_Fk; rw [hrw 502 (by omega) (by omega) (by omega)]
    have e3 := x500 5 (by omega) (by omega) (by omega) (by omega)
    refine ⟨by rw [e1]; exact bb_WS_mono cm.2.1 cm.2.2.1 w1, ?_, fun j j0 j1 => ?_⟩
    · rw [e1, e2, e3]
      exact bb_CH_fr w1 w3 hC (fun i a e f => ⟨hrow i (by omega) (by omega), rfl⟩)
    · rw [e3] at j1
      rw [e2]
      exact bb_WS_mono cm.2.1 cm.2.2.1 (w3 j j0 j1)
  · exact bb_SN_fr n9 hS (hrw 17 (by omega) (by omega) (by omega)) (x500 4 (by omega) (by omega) (by omega) (by omega)) (fun i a e => ⟨hrw i (by omega) (by omega) (by omega), (hD i (by omega)).2⟩) (hrw 503 (by omega) (by omega) (by omega))
  · have c1 : bb_cref D1 r d 18 1 = r := by unfold bb_cref; rw [ab_u_ne (.inr (by decide)), ab_u_ne (.inr (by decide)), ab_u_eq]
    have c2 : bb_cref D1 r d 18 2 = d := by unfold bb_cref; rw [ab_u_ne (.inr (by decide)), ab_u_eq]
    have c3 : bb_cref D1 r d 18 3 = 0 := by unfold bb_cref; rw [ab_u_eq, (hD 18 (by omega)).1, r4]
    have c4 : bb_cref D1 r d 18 4 = 0 := by unfold bb_cref; rw [ab_u_ne (.inr (by decide)), ab_u_ne (.inr (by decide)), ab_u_ne (.inr (by decide)), (hD 18 (by omega)).1, r4]
    refine ⟨⟨?_, ?_, ?_⟩, by rw [x18, c4], by rw [x18, c1]; omega, by rw [x18, c1]; omega⟩
    · rw [x18, c1]; unfold bb_ref; rw [ab_u_ne (.inr (by decide)), ab_u_ne (.inr (by decide)), ab_u_eq]
    · rw [x18, c2]; unfold bb_ref; rw [ab_u_ne (.inr (by decide)), ab_u_eq]
    · rw [x18, c3]; unfold bb_ref; rw [ab_u_eq]
  · rw [x500 6 (by omega) (by omega) (by omega) (by omega)]; exact h6
  · exact bb_TX_fr hT (by rw [hrw 494 (by omega) (by omega) (by omega)]) (hrw 495 (by omega) (by omega) (by omega)) (hrw 505 (by omega) (by omega) (by omega)) (x500 12 (by omega) (by omega) (by omega) (by omega)) (x500 13 (by omega) (by omega) (by omega) (by omega)) (hrw 17 (by omega) (by omega) (by omega))
  · exact bb_LN_fr hL rfl rfl (Nat.le_succ _) (hrw 497 (by omega) (by omega) (by omega)) (fun i a => hrw i (by omega) (by omega) (by omega)) (x500 15 (by omega) (by omega) (by omega) (by omega)) (hrw 506 (by omega) (by omega) (by omega))
  · obtain ⟨a, b⟩ := hR
    refine ⟨?_, ?_⟩
    · show ((z.2.2.2.2.2.1 + 1 : Nat) : Int) ≤ 2000 + 2 * (n + 1) + z.2.1
      omega
    · show ((z.2.2.2.2.2.2 + 6 : Nat) : Int) ≤ 100000 + 20 * (n + 1) + 2 * z.2.1
      omega
  · unfold bb_ref
    rw [ab_u_ne (.inr (by decide)), ab_u_ne (.inr (by decide)), ab_u_ne (.inr (by decide)), ab_u_eq]
/-- a change that went well -/
theorem bb_INV_ok (hn : n < 512) (h : bb_INV n D L z) {D2 : Nat → Int → Int} {L2 : Nat → Int → Int64} {g' : Int → Int} {x : Int64} (hw' : bb_WS (bb_cc n + 1200) g') (hC : bb_CH D2 L2 g' (bb_F1 (D 501) (bb_Fk D) (D 500 5)) (bb_m1k (D 500 5))) (hD : ∀ i, (i < 19 ∨ 451 ≤ i) → D2 i = D i ∧ L2 i = L i) : bb_INV (n + 1) (bb_row (bb_keep D2 501) 501 g') (ab_u L2 508 0 x) z ∧ bb_row (bb_keep D2 501) 501 g' 500 7 = 0 := by
  obtain ⟨n1, ⟨w1, w2, w3⟩, hS, ⟨⟨r1, r2, r3⟩, r4, r5⟩, h6, hT, hL, hR⟩ := h
  have n9 : 0 ≤ n ∧ n < 512 := ⟨n1.1, hn⟩
  have cm := bb_cc_mono n9
  have e500 : D2 500 = D 500 := (hD 500 (by omega)).1
  have e501 : D2 501 = D 501 := (hD 501 (by omega)).1
  have e502 : D2 502 = D 502 := (hD 502 (by omega)).1
  have hk : bb_keep D2 501 = bb_row (ab_u (ab_u D2 500 7 0) 500 5 (if D 500 5 = 8 then 8 else D 500 5 + 1)) 502 (bb_kp (D 502) (D 501) (D 500 5)) := by
    unfold bb_keep
    rw [e500, h6, if_neg (by decide), e501, e502]
  have hrow : ∀ i, i ≠ 500 → i ≠ 501 → i ≠ 502 → bb_row (bb_keep D2 501) 501 g' i = D2 i := fun i a b c => by
    rw [bb_row_ne b, hk, bb_row_ne c, ab_u_row a, ab_u_row a]
  have x500 : ∀ k, k ≠ 7 → k ≠ 5 → bb_row (bb_keep D2 501) 501 g' 500 k = D 500 k := fun k a b => by
    rw [bb_row_ne (by decide), hk, bb_row_ne (by decide), ab_u_ne (.inr b), ab_u_ne (.inr a), e500]
  have x5 : bb_row (bb_keep D2 501) 501 g' 500 5 = bb_m1k (D 500 5) := by
    rw [bb_row_ne (by decide), hk, bb_row_ne (by decide), ab_u_eq]
    rfl
  have x7 : bb_row (bb_keep D2 501) 501 g' 500 7 = 0 := by
    rw [bb_row_ne (by decide), hk, bb_row_ne (by decide), ab_u_ne (.inr (by decide)), ab_u_eq]
  have x502 : bb_row (bb_keep D2 501) 501 g' 502 = bb_kp (D 502) (D 501) (D 500 5) := by rw [bb_row_ne (by decide), hk, bb_row_eq]
  have hrw : ∀ i, i ≠ 500 → i ≠ 501 → i ≠ 502 → (i < 19 ∨ 451 ≤ i) → bb_row (bb_keep D2 501) 501 g' i = D i := fun i a b c e => (hrow i a b c).trans (hD i e).1
  have hLw : ∀ i, i ≠ 508 → ab_u L2 508 0 x i = L2 i := fun i a => ab_u_row a
  have hm := w2.2.2.2.1
  refine ⟨⟨⟨by omega, by omega⟩, ?_, ?_, ?_, ?_, ?_, ?_, ?_⟩, x7⟩
  · have e1 : bb_row (bb_keep D2 501) 501 g' 501 = g' := bb_row_eq
    have hFW := bb_F1_WS (c' := bb_cc (n + 1)) cm.2.1 cm.2.2.1 w1 w3
    have hE : ∀ j, 0 ≤ j → j < bb_m1k (D 500 5) → bb_eqg (bb_F1 (D 501) (bb_Fk D) (D 500 5) j) (bb_Fk (bb_row (bb_keep D2 501) 501 g') j) := fun j j0 j1 => by
      have := bb_kp_eq (f := D 502) (src := D 501) hm j0 j1
      unfold bb_Fk
      rw [x502]
      exact this
    refine ⟨by rw [e1]; exact bb_WS_mono cm.1 cm.2.2.1 hw', ?_, fun j j0 j1 => ?_⟩
    · rw [e1, x5]
      exact bb_CH_congr hFW hE (bb_CH_fr (bb_WS_mono cm.1 cm.2.2.1 hw') hFW hC (fun i a b c => ⟨hrow i (by omega) (by omega) (by omega), hLw i (by omega)⟩))
    · rw [x5] at j1
      exact bb_WS_congr (hE j j0 j1) (Int.le_refl _) cm.2.2.1 (hFW j j0 j1)
  · exact bb_SN_fr n9 hS (hrw 17 (by omega) (by omega) (by omega) (by omega)) (x500 4 (by omega) (by omega)) (fun i a e => ⟨hrw i (by omega) (by omega) (by omega) (by omega), (hLw i (by omega)).trans (hD i (by omega)).2⟩) (hrw 503 (by omega) (by omega) (by omega) (by omega))
  · have e18 : bb_row (bb_keep D2 501) 501 g' 18 = D 18 := hrw 18 (by omega) (by omega) (by omega) (by omega)
    refine ⟨⟨?_, ?_, ?_⟩, by rw [e18]; exact r4, by rw [e18]; exact r5⟩
    · rw [e18, x500 8 (by omega) (by omega)]; exact r1
    · rw [e18, x500 9 (by omega) (by omega)]; exact r2
    · rw [e18, x500 10 (by omega) (by omega)]; exact r3
  · rw [x500 6 (by omega) (by omega)]; exact h6
  · exact bb_TX_fr hT (by rw [hrw 494 (by omega) (by omega) (by omega) (by omega)]) (hrw 495 (by omega) (by omega) (by omega) (by omega)) (hrw 505 (by omega) (by omega) (by omega) (by omega)) (x500 12 (by omega) (by omega)) (x500 13 (by omega) (by omega)) (hrw 17 (by omega) (by omega) (by omega) (by omega))
  · exact bb_LN_fr hL rfl rfl (Nat.le_refl _) (hrw 497 (by omega) (by omega) (by omega) (by omega)) (fun i a => hrw i (by omega) (by omega) (by omega) (by omega)) (x500 15 (by omega) (by omega)) (hrw 506 (by omega) (by omega) (by omega) (by omega))
  · obtain ⟨a, b⟩ := hR
    exact ⟨by omega, by omega⟩
/-- a call of the law, and the model's: the same ends, the same answers -/
def bb_OP (K : ab_Kt) (n : Int) (D : Nat → Int → Int) (L : Nat → Int → Int64) (z : ab_Z) (H : Nat) (as : List Value) (M : Nat) (as' : List Value) : Prop :=
  ∃ D1 L1 z1 D' k b, ab_cal K H as (ab_mk D L z) = some (.inl (some (.int (ab_I k))), ab_mk D1 L1 z1) ∧ ab_cal K M as' (ab_mk D1 L1 z1) = some (.inl (some (.int (ab_I b))), ab_mk D' L1 z1) ∧ (0 ≤ k ∧ k ≤ 2) ∧ D' 500 7 = k ∧ (k = 0 → L1 508 0 = (ab_I b).toInt64) ∧ bb_INV (n + 1) D' L1 z1 ∧ z.2.2.2.2.2.1 ≤ z1.2.2.2.2.2.1 ∧ z.2.2.2.2.2.2 ≤ z1.2.2.2.2.2.2
end
