/-! ===== what a shop of the class and a row of the model have in common ===== -/
def bb_KS (D : Nat → Int → Int) (L : Nat → Int → Int64) (s : Nat) (g : Int → Int) : Prop :=
  (D s 2 = g 3 ∧ D s 3 = g 0 ∧ D s 4 = g 1 ∧ D s 5 = g 2 ∧ D s 6 = g 4 ∧ D s 7 = g 5 ∧ D s 8 = g 6 ∧ D s 9 = g 7) ∧
  (∀ p, 0 ≤ p → p < 2 → D (ab_pI s p) 1 = g (8 + 4 * p) ∧ ∀ k, 0 ≤ k → k < 3 → D (ab_pI s p + 1) k = g (8 + 4 * p + 1 + k)) ∧
  (∀ e, 0 ≤ e → e < 6 → bb_AB D (ab_bI s e)) ∧
  (∀ e, 0 ≤ e → e < g 3 → bb_KB D L (ab_bI s e) g e (g 0)) ∧
  ∀ e, g 3 ≤ e → e < 6 → bb_NB D L (ab_bI s e)
/-- the presses: how high, which books, each once, and no other book is in a press -/
def bb_PW (g : Int → Int) : Prop :=
  (∀ p, 0 ≤ p → p < 2 → 0 ≤ g (8 + 4 * p) ∧ g (8 + 4 * p) ≤ 3) ∧
  (∀ p k, 0 ≤ p → p < 2 → 0 ≤ k → k < g (8 + 4 * p) → (0 ≤ g (8 + 4 * p + 1 + k) ∧ g (8 + 4 * p + 1 + k) < g 3) ∧ bb_R g (g (8 + 4 * p + 1 + k)) 2 = 2) ∧
  (∀ p k q j, 0 ≤ p → p < 2 → 0 ≤ k → k < g (8 + 4 * p) → 0 ≤ q → q < 2 → 0 ≤ j → j < g (8 + 4 * q) → g (8 + 4 * p + 1 + k) = g (8 + 4 * q + 1 + j) → p = q ∧ k = j) ∧
  ab_S (fun e => if bb_R g e 2 = 2 then 1 else 0) (g 3) = g 8 + g 12
def bb_WS (c : Int) (g : Int → Int) : Prop := (0 ≤ g 3 ∧ g 3 ≤ 6) ∧ (0 ≤ g 2 ∧ g 2 ≤ 999) ∧ (0 ≤ g 0 ∧ g 0 ≤ c) ∧ (0 ≤ g 1 ∧ g 1 ≤ c) ∧ c ≤ 50000000 ∧ (∀ e, 0 ≤ e → e < g 3 → bb_WB g e (g 0)) ∧ bb_PW g
/-- both rows say the same -/
def bb_eqg (g g' : Int → Int) : Prop := ∀ k, 0 ≤ k → k < 322 → g k = g' k
theorem bb_eqg_R {g g' : Int → Int} (h : bb_eqg g g') {e w : Int} (e0 : 0 ≤ e) (e1 : e < 6) (w0 : 0 ≤ w) (w1 : w < 51) : bb_R g e w = bb_R g' e w := h _ (by omega) (by omega)
theorem bb_sl_congr {g g' : Int → Int} {e e' p : Int} (h : ∀ w, 0 ≤ w → w < 51 → bb_R g e w = bb_R g' e' w) (p0 : 0 ≤ p) (p1 : p < 192) : bb_sl g e p = bb_sl g' e' p := by
  unfold bb_sl
  rw [h _ (by omega) (by omega)]
theorem bb_KB_congr {D D' : Nat → Int → Int} {L L' : Nat → Int → Int64} {b : Nat} {g g' : Int → Int} {e mn : Int} (hD : ∀ i, b ≤ i → i < b + 6 → D' i = D i ∧ L' i = L i) (h : ∀ w, 0 ≤ w → w < 51 → bb_R g e w = bb_R g' e w) (hn : bb_R g e 3 ≤ 12) (hk : bb_KB D L b g e mn) : bb_KB D' L' b g' e mn := by
  obtain ⟨⟨k0, k1, k2, k3, k4, k6⟩, k7, k5, ks, kl⟩ := hk
  have e0 := (hD b (by omega) (by omega)).1
  refine ⟨⟨?_, ?_, ?_, ?_, ?_, ?_⟩, ?_, ?_, fun s s0 s1 => ?_, fun p p0 p1 => ?_⟩
  · rw [e0, k0]; exact h 0 (by omega) (by omega)
  · rw [e0, k1]; exact h 1 (by omega) (by omega)
  · rw [e0, k2]; exact h 2 (by omega) (by omega)
  · rw [e0, k3]; exact h 3 (by omega) (by omega)
  · rw [e0, k4]; exact h 4 (by omega) (by omega)
  · rw [e0, k6]; exact h 5 (by omega) (by omega)
  · rw [e0, k7]
    unfold bb_nd
    rw [h 5 (by omega) (by omega), h 6 (by omega) (by omega)]
  · rw [e0, k5]
    exact ab_Scongr (fun i a c => bb_sl_congr h a c)
  · rw [← h 3 (by omega) (by omega)] at s1
    rw [(hD (b + 1) (by omega) (by omega)).1, (hD (b + 2) (by omega) (by omega)).1, (hD (b + 3) (by omega) (by omega)).1, (hD (b + 4) (by omega) (by omega)).1, ← h (7 + 3 * s + 0) (by omega) (by omega), ← h (7 + 3 * s + 1) (by omega) (by omega), ← h (7 + 3 * s + 2) (by omega) (by omega)]
    exact ks s s0 s1
  · rw [(hD (b + 5) (by omega) (by omega)).2, ← bb_sl_congr h p0 p1]
    exact kl p p0 p1
theorem bb_NB_fr {D D' : Nat → Int → Int} {L L' : Nat → Int → Int64} {b : Nat} (hD : ∀ i, b ≤ i → i < b + 6 → D' i = D i ∧ L' i = L i) (h : bb_NB D L b) : bb_NB D' L' b := by
  unfold bb_NB
  rw [(hD b (by omega) (by omega)).1, (hD (b + 5) (by omega) (by omega)).2]
  exact h
theorem bb_WB_congr {g g' : Int → Int} {e mn mn' : Int} (h : ∀ w, 0 ≤ w → w < 51 → bb_R g e w = bb_R g' e w) (hm : mn ≤ mn') (hw : bb_WB g e mn) : bb_WB g' e mn' := by
  have hn := bb_WB_n hw
  refine ⟨?_, ?_, ?_, ?_, ?_, ?_, ?_, ?_, fun s s0 s1 => ?_, fun s s0 s1 => ?_, fun j j0 j1 => ?_⟩
  · rw [← h 0 (by omega) (by omega)]; exact hw.1
  · rw [← h 1 (by omega) (by omega)]; exact hw.2.1
  · rw [← h 2 (by omega) (by omega)]; exact hn.2.2.1
  · rw [← h 3 (by omega) (by omega)]; exact hn.2.2.2.1
  · rw [← h 4 (by omega) (by omega), ← h 3 (by omega) (by omega)]; exact hn.2.2.2.2.1
  · rw [← h 5 (by omega) (by omega)]; exact hn.2.2.2.2.2.1
  · rw [← h 6 (by omega) (by omega)]; omega
  · rw [← h 2 (by omega) (by omega), ← h 5 (by omega) (by omega)]; exact hn.2.2.2.2.2.2.2
  · rw [← h _ (by omega) (by omega), ← h _ (by omega) (by omega), ← h _ (by omega) (by omega)]
    exact bb_WB_a hw s0 s1
  · rw [← h 3 (by omega) (by omega)] at s1
    rw [← h _ (by omega) (by omega), ← h _ (by omega) (by omega)]
    exact bb_WB_s hw s0 s1
  · rw [← h _ (by omega) (by omega)]
    exact bb_WB_l hw j0 j1
theorem bb_PW_congr {g g' : Int → Int} (h : ∀ k, (k = 3 ∨ (8 ≤ k ∧ k < 16)) → g k = g' k) (hm : 0 ≤ g 3 ∧ g 3 ≤ 6) (hr : ∀ e, 0 ≤ e → e < g 3 → bb_R g e 2 = bb_R g' e 2) (hw : bb_PW g) : bb_PW g' := by
  obtain ⟨w1, w2, w3, w4⟩ := hw
  have e3 := h 3 (.inl rfl)
  refine ⟨fun p p0 p1 => ?_, fun p k p0 p1 k0 k1 => ?_, fun p k q j p0 p1 k0 k1 q0 q1 j0 j1 hh => ?_, ?_⟩
  · rw [← h _ (by omega)]; exact w1 p p0 p1
  · have a := w1 p p0 p1
    rw [← h _ (by omega)] at k1
    have c := w2 p k p0 p1 k0 k1
    rw [← h (8 + 4 * p + 1 + k) (by omega), ← e3, ← hr _ c.1.1 c.1.2]
    exact c
  · have a := w1 p p0 p1
    have c := w1 q q0 q1
    rw [← h _ (by omega)] at k1 j1
    rw [← h _ (by omega), ← h _ (by omega)] at hh
    exact w3 p k q j p0 p1 k0 k1 q0 q1 j0 j1 hh
  · rw [← e3, ← h 8 (by omega), ← h 12 (by omega), ← w4]
    refine ab_Scongr (fun e a c => ?_)
    rw [hr e a c]
theorem bb_WS_congr {c c' : Int} {g g' : Int → Int} (h : bb_eqg g g') (hc : c ≤ c') (hc2 : c' ≤ 50000000) (hw : bb_WS c g) : bb_WS c' g' := by
  obtain ⟨w1, w2, w3, w4, w5, w6, w7⟩ := hw
  have r := @h
  have e0 := h 0 (by omega) (by omega)
  have e1 := h 1 (by omega) (by omega)
  have e2 := h 2 (by omega) (by omega)
  have e3 := h 3 (by omega) (by omega)
  refine ⟨by omega, by omega, by omega, by omega, hc2, fun e a d => ?_, bb_PW_congr (fun k hk => h k (by omega) (by omega)) w1 (fun e a d => bb_eqg_R h a (by omega) (by omega) (by omega)) w7⟩
  exact bb_WB_congr (fun w a b => bb_eqg_R h (by omega) (by omega) a b) (by omega) (w6 e a (by omega))
theorem bb_WS_mono {c c' : Int} {g : Int → Int} (hc : c ≤ c') (hc2 : c' ≤ 50000000) (hw : bb_WS c g) : bb_WS c' g := bb_WS_congr (fun _ _ _ => rfl) hc hc2 hw
theorem bb_KS_congr {D D' : Nat → Int → Int} {L L' : Nat → Int → Int64} {s : Nat} {c : Int} {g g' : Int → Int} (h : bb_eqg g g') (hw : bb_WS c g) (hD : ∀ i, s ≤ i → i < s + 43 → D' i = D i ∧ L' i = L i) (hk : bb_KS D L s g) : bb_KS D' L' s g' := by
  obtain ⟨k1, k2, k3, k4, k5⟩ := hk
  have w1 := hw.1
  have ds := (hD s (by omega) (by omega)).1
  have e3 := h 3 (by omega) (by omega)
  refine ⟨?_, fun p p0 p1 => ?_, fun e a d => ?_, fun e a d => ?_, fun e a d => ?_⟩
  · rw [ds, ← h 0 (by omega) (by omega), ← h 1 (by omega) (by omega), ← h 2 (by omega) (by omega), ← e3, ← h 4 (by omega) (by omega), ← h 5 (by omega) (by omega), ← h 6 (by omega) (by omega), ← h 7 (by omega) (by omega)]
    exact k1
  · have e1 := bb_pI_e s p
    rw [(hD (ab_pI s p) (by omega) (by omega)).1, (hD (ab_pI s p + 1) (by omega) (by omega)).1, ← h _ (by omega) (by omega)]
    refine ⟨(k2 p p0 p1).1, fun k a d => ?_⟩
    rw [← h _ (by omega) (by omega)]
    exact (k2 p p0 p1).2 k a d
  · have e1 := bb_bI_e s e
    exact bb_AB_fr (k3 e a d) (fun i x y => (hD i (by omega) (by omega)).1)
  · have e1 := bb_bI_e s e
    rw [← h 0 (by omega) (by omega)]
    exact bb_KB_congr (fun i x y => hD i (by omega) (by omega)) (fun w x y => bb_eqg_R h a (by omega) x y) (bb_WB_n (hw.2.2.2.2.2.1 e a (by omega))).2.2.2.1.2 (k4 e a (by omega))
  · have e1 := bb_bI_e s e
    exact bb_NB_fr (fun i x y => hD i (by omega) (by omega)) (k5 e (by omega) d)
theorem bb_EB_KB {D D' : Nat → Int → Int} {L L' : Nat → Int → Int64} {b b' : Nat} {g : Int → Int} {e mn : Int} (h : bb_EB D L b D' L' b') (hn : bb_R g e 3 ≤ 12) (hk : bb_KB D L b g e mn) : bb_KB D' L' b' g e mn := by
  obtain ⟨⟨k0, k1, k2, k3, k4, k6⟩, k7, k5, ks, kl⟩ := hk
  obtain ⟨h1, h2, h3⟩ := h
  refine ⟨⟨?_, ?_, ?_, ?_, ?_, ?_⟩, ?_, ?_, fun s s0 s1 => ?_, fun p p0 p1 => ?_⟩
  · rw [h1 0 (by omega) (by omega), k0]
  · rw [h1 1 (by omega) (by omega), k1]
  · rw [h1 2 (by omega) (by omega), k2]
  · rw [h1 3 (by omega) (by omega), k3]
  · rw [h1 4 (by omega) (by omega), k4]
  · rw [h1 6 (by omega) (by omega), k6]
  · rw [h1 7 (by omega) (by omega), k7]
  · rw [h1 5 (by omega) (by omega), k5]
  · obtain ⟨a1, a3, a4, a2⟩ := ks s s0 s1
    obtain ⟨c1, c3, c4, c2⟩ := h2 s s0 (by omega)
    rw [c1, c2, c3, c4, a1, a3, a4]
    exact ⟨rfl, rfl, rfl, rfl⟩
  · rw [h3 _ (by omega) (by omega)]
    exact kl p p0 p1
theorem bb_EB_NB {D D' : Nat → Int → Int} {L L' : Nat → Int → Int64} {b b' : Nat} (h : bb_EB D L b D' L' b') (hk : bb_NB D L b) : bb_NB D' L' b' := by
  obtain ⟨h1, h2, h3⟩ := h
  unfold bb_NB
  rw [h1 2 (by omega) (by omega), h1 3 (by omega) (by omega), h1 4 (by omega) (by omega), h1 5 (by omega) (by omega), h1 6 (by omega) (by omega), h1 7 (by omega) (by omega), h3 0 (by omega) (by omega), h3 1 (by omega) (by omega), h3 2 (by omega) (by omega)]
  exact hk
theorem bb_EB_AB {D D' : Nat → Int → Int} {L L' : Nat → Int → Int64} {b b' : Nat} (h : bb_EB D L b D' L' b') (ha : bb_AB D b) : bb_AB D' b' := by
  intro s s0 s1
  obtain ⟨c1, c3, c4, c2⟩ := h.2.1 s s0 s1
  have a := ha s s0 s1
  have p : 2 ≤ ab_pw (D (b + 3) s) ∧ ab_pw (D (b + 3) s) ≤ 16 := by unfold ab_pw; omega
  rw [c1, c2, c3, c4]
  exact ⟨a.1, by omega, a.2.2⟩
theorem bb_ES_KS {D D' : Nat → Int → Int} {L L' : Nat → Int → Int64} {s s' : Nat} {c : Int} {g : Int → Int} (h : bb_ES D L s D' L' s') (hw : bb_WS c g) (hk : bb_KS D L s g) : bb_KS D' L' s' g := by
  obtain ⟨k1, k2, k3, k4, k5⟩ := hk
  obtain ⟨h1, h2, h3⟩ := h
  have w1 := hw.1
  refine ⟨?_, fun p p0 p1 => ?_, fun e a d => ?_, fun e a d => ?_, fun e a d => ?_⟩
  · rw [h1 2 (by omega) (by omega), h1 3 (by omega) (by omega), h1 4 (by omega) (by omega), h1 5 (by omega) (by omega), h1 6 (by omega) (by omega), h1 7 (by omega) (by omega), h1 8 (by omega) (by omega), h1 9 (by omega) (by omega)]
    exact k1
  · refine ⟨(h3 p p0 p1).1.trans (k2 p p0 p1).1, fun k x y => ((h3 p p0 p1).2 k x y).trans ((k2 p p0 p1).2 k x y)⟩
  · exact bb_EB_AB (h2 e a d) (k3 e a d)
  · exact bb_EB_KB (h2 e a (by omega)) (bb_WB_n (hw.2.2.2.2.2.1 e a (by omega))).2.2.2.1.2 (k4 e a d)
  · exact bb_EB_NB (h2 e (by omega) d) (k5 e a d)
theorem bb_KS_IB {D : Nat → Int → Int} {L : Nat → Int → Int64} {s : Nat} {c : Int} {g : Int → Int} (hw : bb_WS c g) (hk : bb_KS D L s g) {e : Int} (e0 : 0 ≤ e) (e1 : e < g 3) : ab_IB D (ab_bI s e) := bb_KB_IB (hk.2.2.2.1 e e0 e1) (hk.2.2.1 e e0 (by have := hw.1; omega)) (hw.2.2.2.2.2.1 e e0 e1) hw.2.2.1.1
theorem bb_WS_IR {c : Int} {g : Int → Int} (hw : bb_WS c g) {e : Int} (e0 : 0 ≤ e) (e1 : e < g 3) : ab_IR g e := bb_WB_IR (hw.2.2.2.2.2.1 e e0 e1) (by have := hw.2.2.1; have := hw.2.2.2.2.1; omega)
/-! ===== one place of a row ===== -/
def bb_g1 (g : Int → Int) (k v : Int) : Int → Int := fun j => if j = k then v else g j
theorem bb_g1_eq {g : Int → Int} {k v : Int} : bb_g1 g k v k = v := if_pos rfl
theorem bb_g1_ne {g : Int → Int} {k v j : Int} (h : j ≠ k) : bb_g1 g k v j = g j := if_neg h
theorem bb_R_g1 {g : Int → Int} {e e' w w' v : Int} (w0 : 0 ≤ w) (w1 : w < 51) (w0' : 0 ≤ w') (w1' : w' < 51) : bb_R (bb_g1 g (16 + 51 * e' + w') v) e w = if e = e' ∧ w = w' then v else bb_R g e w := by
  unfold bb_R bb_g1
  by_cases h : e = e' ∧ w = w'
  · rw [if_pos h, if_pos (by omega)]
  · rw [if_neg h, if_neg (by omega)]
theorem bb_R_lo {g : Int → Int} {e w k v : Int} (e0 : 0 ≤ e) (w0 : 0 ≤ w) (hk : k < 16) : bb_R (bb_g1 g k v) e w = bb_R g e w := by
  unfold bb_R bb_g1
  rw [if_neg (by omega)]
theorem bb_u_g1 {D : Nat → Int → Int} {i : Nat} {k v : Int} : ab_u D i k v i = bb_g1 (D i) k v := by
  funext j
  exact ab_u_if
/-- a whole row anew -/
def bb_row (D : Nat → Int → Int) (i : Nat) (r : Int → Int) : Nat → Int → Int := fun j => if j = i then r else D j
theorem bb_row_eq {D : Nat → Int → Int} {i : Nat} {r : Int → Int} : bb_row D i r i = r := if_pos rfl
theorem bb_row_ne {D : Nat → Int → Int} {i j : Nat} {r : Int → Int} (h : j ≠ i) : bb_row D i r j = D j := if_neg h
theorem bb_u_row {D : Nat → Int → Int} {i : Nat} {k v : Int} : ab_u D i k v = bb_row D i (bb_g1 (D i) k v) := by
  funext j
  by_cases h : j = i
  · subst h; rw [bb_row_eq, bb_u_g1]
  · rw [bb_row_ne h, ab_u_row h]
theorem bb_row_row {D : Nat → Int → Int} {i : Nat} {r r' : Int → Int} : bb_row (bb_row D i r) i r' = bb_row D i r' := by
  funext j
  by_cases h : j = i
  · subst h; rw [bb_row_eq, bb_row_eq]
  · rw [bb_row_ne h, bb_row_ne h, bb_row_ne h]
theorem bb_row_self {D : Nat → Int → Int} {i : Nat} : bb_row D i (D i) = D := by
  funext j
  by_cases h : j = i
  · subst h; rw [bb_row_eq]
  · rw [bb_row_ne h]
