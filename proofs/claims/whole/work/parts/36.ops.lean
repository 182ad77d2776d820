/-! ===== what each change does to a row: refused for a reason with a detail, or an answer and the row behind it ===== -/
abbrev bb_O : Type := (Int × Int) ⊕ (Int × (Int → Int))
def bb_gb (g : Int → Int) (p st : Int) : Int → Int := fun k => if k = 3 then g 3 + 1 else if 16 + 51 * g 3 ≤ k ∧ k < 16 + 51 * g 3 + 51 then (if k = 16 + 51 * g 3 + 0 then p else if k = 16 + 51 * g 3 + 1 then st else if k = 16 + 51 * g 3 + 5 then -1 else 0) else g k
def bb_sp_book (g : Int → Int) (p st : Int) : bb_O := if ¬ (4 ≤ p ∧ p ≤ 96 ∧ 2 ≤ st ∧ st ≤ 5) then .inl (1, 0) else if g 3 = 6 then .inl (2, 6) else .inr (g 3, bb_gb g p st)
def bb_sp_gather (g : Int → Int) (b f fo t : Int) : bb_O := match bb_held g b with
  | some x => .inl x
  | none => if ¬ (1 ≤ f ∧ f ≤ 99 ∧ 1 ≤ fo ∧ fo ≤ 3) then .inl (1, 0) else if bb_R g b 3 = 12 then .inl (2, 12) else .inr (bb_R g b 3, bb_gp (bb_g1 g (16 + 51 * b + 3) (bb_R g b 3 + 1)) b (bb_R g b 3) f fo t)
/-- a signature moved -/
def bb_mv (g : Int → Int) (e p t : Int) : Int → Int := fun k => if 16 + 51 * e + 7 ≤ k ∧ k < 16 + 51 * e + 43 then g (16 + 51 * e + (7 + 3 * bb_mvi p t ((k - (16 + 51 * e + 7)) / 3) + (k - (16 + 51 * e + 7)) % 3)) else g k
def bb_sp_move (g : Int → Int) (b p t : Int) : bb_O := match bb_held g b with
  | some x => .inl x
  | none => if ¬ (0 ≤ p ∧ p < bb_R g b 3) then .inl (3, p) else if ¬ (0 ≤ t ∧ t < bb_R g b 3) then .inl (3, t) else .inr (ab_rwrong (bb_mv g b p t) b, bb_mv g b p t)
def bb_sp_drop (g : Int → Int) (b p : Int) : bb_O := match bb_held g b with
  | some x => .inl x
  | none => if ¬ (0 ≤ p ∧ p < bb_R g b 3) then .inl (3, p) else .inr (bb_R g b 3 - 1, bb_g1 (bb_gp (bb_mv g b p (bb_R g b 3 - 1)) b (bb_R g b 3 - 1) 0 0 0) (16 + 51 * b + 3) (bb_R g b 3 - 1))
def bb_sv2 (g : Int → Int) (l : Int) : Int := if 999 < g 2 + l then 999 else g 2 + l
def bb_sp_spool (g : Int → Int) (l : Int) : bb_O := if ¬ (1 ≤ l ∧ l ≤ 200) then .inl (1, 0) else .inr (bb_sv2 g l, bb_g1 g 2 (bb_sv2 g l))
def bb_sp_sew (g : Int → Int) (b : Int) : bb_O := match bb_at g b 0 with
  | some x => .inl x
  | none => if bb_R g b 4 = bb_R g b 3 then .inl (6, bb_R g b 3) else if g 2 < ab_rth g b (bb_R g b 4) then .inl (7, ab_rth g b (bb_R g b 4) - g 2) else
    .inr (g 2 - ab_rth g b (bb_R g b 4), bb_g1 (bb_g1 (bb_g1 g 2 (g 2 - ab_rth g b (bb_R g b 4))) 4 (g 4 + ab_rth g b (bb_R g b 4))) (16 + 51 * b + 4) (bb_R g b 4 + 1))
def bb_sp_unpick (g : Int → Int) (b : Int) : bb_O := match bb_at g b 0 with
  | some x => .inl x
  | none => if bb_R g b 4 = 0 then .inl (6, bb_R g b 3) else .inr (bb_R g b 4 - 1, bb_g1 (bb_g1 g (16 + 51 * b + 4) (bb_R g b 4 - 1)) 5 (g 5 + 1))
def bb_sp_glue (g : Int → Int) (b q : Int) : bb_O := if ¬ (0 ≤ b ∧ b < g 3) then .inl (3, b) else if ¬ (0 ≤ q ∧ q ≤ 2) then .inl (3, q) else match bb_at g b 0 with
  | some x => .inl x
  | none => if bb_R g b 3 = 0 then .inl (9, 0) else if bb_R g b 4 < bb_R g b 3 then .inl (8, bb_R g b 4) else .inr (bb_set q, bb_g1 (bb_g1 (bb_g1 g (16 + 51 * b + 2) 1) (16 + 51 * b + 5) q) (16 + 51 * b + 6) (g 0 + bb_set q))
def bb_sp_press (g : Int → Int) (b p : Int) : bb_O := if ¬ (0 ≤ b ∧ b < g 3) then .inl (3, b) else if ¬ (0 ≤ p ∧ p ≤ 1) then .inl (3, p) else match bb_at g b 1 with
  | some x => .inl x
  | none => if g (8 + 4 * p) = 3 then .inl (2, 3) else .inr (g (8 + 4 * p) + 1, bb_g1 (bb_g1 (bb_g1 g (8 + 4 * p + 1 + g (8 + 4 * p)) b) (8 + 4 * p) (g (8 + 4 * p) + 1)) (16 + 51 * b + 2) 2)
def bb_top (g : Int → Int) (p : Int) : Int := g (8 + 4 * p + 1 + (g (8 + 4 * p) - 1))
def bb_sp_lift (g : Int → Int) (p : Int) : bb_O := if ¬ (0 ≤ p ∧ p ≤ 1) then .inl (3, p) else if g (8 + 4 * p) = 0 then .inl (11, p) else if 0 < ab_rneed g (bb_top g p) then .inl (10, ab_rneed g (bb_top g p)) else
  .inr (bb_top g p, bb_g1 (bb_g1 g (8 + 4 * p) (g (8 + 4 * p) - 1)) (16 + 51 * bb_top g p + 2) 3)
def bb_gs (g : Int → Int) (b p : Int) : Int → Int := bb_g1 (bb_g1 g (16 + 51 * b + (43 + p / 24)) (bb_or (bb_R g b (43 + p / 24)) (p % 24))) 6 (g 6 + 1)
def bb_sp_slip (g : Int → Int) (b p : Int) : bb_O := match bb_at g b 3 with
  | some x => .inl x
  | none => if ¬ ((0 ≤ p ∧ p < ab_rall g b) ∧ ab_rwr g b p = 1) then .inl (12, p) else if bb_sl g b p = 1 then .inl (13, p) else .inr (ab_S (bb_sl (bb_gs g b p) b) 192, bb_gs g b p)
def bb_br (g : Int → Int) (b : Int) : Int := (ab_rall g b - ab_rwrong g b) / 8
def bb_sp_deliver (g : Int → Int) (b : Int) : bb_O := match bb_at g b 3 with
  | some x => .inl x
  | none => if 0 ≤ bb_ws g b then .inl (14, bb_ws g b) else if g 1 < ab_rmiss g b then .inl (15, ab_rmiss g b - g 1) else .inr (bb_br g b, bb_g1 (bb_g1 (bb_g1 g 1 (g 1 + (bb_br g b - ab_rmiss g b))) 7 (g 7 + bb_br g b)) (16 + 51 * b + 2) 4)
/-- a minute goes by: each book; all of them; many minutes -/
def bb_lo (h : Int → Int) (k : Int) : Prop := bb_R h k 2 = 1 ∧ bb_nd h k (h 0) = 0
def bb_mq (h : Int → Int) (k : Int) : Int → Int := if bb_R h k 2 = 1 ∧ bb_nd h k (h 0) = 0 then bb_g1 (bb_g1 (bb_g1 (bb_g1 (bb_g1 h 5 (h 5 + bb_R h k 4)) (16 + 51 * k + 4) 0) (16 + 51 * k + 2) 0) (16 + 51 * k + 5) (-1)) (16 + 51 * k + 6) 0 else h
def bb_mc (h : Int → Int) (k : Int) : Int := if bb_R h k 2 = 1 ∧ bb_nd h k (h 0) = 0 then 1 else 0
def bb_mN (h : Int → Int) : Nat → Int × (Int → Int)
  | 0 => (0, h)
  | n + 1 => ((bb_mN h n).1 + bb_mc (bb_mN h n).2 n, bb_mq (bb_mN h n).2 n)
def bb_m1 (g : Int → Int) : Int × (Int → Int) := bb_mN (bb_g1 g 0 (g 0 + 1)) (g 3).toNat
def bb_pN (g : Int → Int) : Nat → Int × (Int → Int)
  | 0 => (0, g)
  | n + 1 => ((bb_pN g n).1 + (bb_m1 (bb_pN g n).2).1, (bb_m1 (bb_pN g n).2).2)
def bb_sp_pass (g : Int → Int) (m : Int) : bb_O := if ¬ (1 ≤ m ∧ m ≤ 60) then .inl (1, 0) else .inr (bb_pN g m.toNat)
/-! ===== the rows behind stay rows ===== -/
theorem bb_PW_congr2 {g g' : Int → Int} (h : ∀ k, (k = 3 ∨ (8 ≤ k ∧ k < 16)) → g k = g' k) (hm : 0 ≤ g 3 ∧ g 3 ≤ 6) (hr : ∀ e, 0 ≤ e → e < g 3 → (bb_R g e 2 = 2 ↔ bb_R g' e 2 = 2)) (hw : bb_PW g) : bb_PW g' := by
  obtain ⟨w1, w2, w3, w4⟩ := hw
  have e3 := h 3 (.inl rfl)
  refine ⟨fun p p0 p1 => ?_, fun p k p0 p1 k0 k1 => ?_, fun p k q j p0 p1 k0 k1 q0 q1 j0 j1 hh => ?_, ?_⟩
  · rw [← h _ (by omega)]; exact w1 p p0 p1
  · have a := w1 p p0 p1
    rw [← h _ (by omega)] at k1
    have c := w2 p k p0 p1 k0 k1
    rw [← h (8 + 4 * p + 1 + k) (by omega), ← e3]
    exact ⟨c.1, (hr _ c.1.1 c.1.2).mp c.2⟩
  · have a := w1 p p0 p1
    have c := w1 q q0 q1
    rw [← h _ (by omega)] at k1 j1
    rw [← h _ (by omega), ← h _ (by omega)] at hh
    exact w3 p k q j p0 p1 k0 k1 q0 q1 j0 j1 hh
  · rw [← e3, ← h 8 (by omega), ← h 12 (by omega), ← w4]
    refine ab_Scongr (fun e a c => ?_)
    have := hr e a c
    by_cases h9 : bb_R g e 2 = 2
    · rw [if_pos h9, if_pos (this.mp h9)]
    · rw [if_neg h9, if_neg (fun x => h9 (this.mpr x))]
/-- one book changes, no press does -/
theorem bb_WS_book {c c' : Int} {g g' : Int → Int} {e : Int} (hw : bb_WS c g) (hc : c ≤ c') (hc2 : c' ≤ 50000000) (h : ∀ k, (k = 3 ∨ (8 ≤ k ∧ k < 16)) → g k = g' k) (h0 : g' 0 = g 0) (h1 : 0 ≤ g' 1 ∧ g' 1 ≤ c') (h2 : 0 ≤ g' 2 ∧ g' 2 ≤ 999) (ho : ∀ e', 0 ≤ e' → e' < g 3 → e' ≠ e → ∀ w, 0 ≤ w → w < 51 → bb_R g e' w = bb_R g' e' w) (hb : bb_WB g' e (g' 0)) (hs : bb_R g e 2 = 2 ↔ bb_R g' e 2 = 2) : bb_WS c' g' := by
  obtain ⟨w1, w2, w3, w4, w5, w6, w7⟩ := hw
  have e3 := h 3 (.inl rfl)
  refine ⟨by omega, h2, by omega, h1, hc2, fun e' a d => ?_, bb_PW_congr2 h w1 (fun e' a d => ?_) w7⟩
  · by_cases he : e' = e
    · subst he; exact hb
    · rw [h0]
      exact bb_WB_congr (ho e' a (by omega) he) (Int.le_refl _) (w6 e' a (by omega))
  · by_cases he : e' = e
    · subst he; exact hs
    · rw [ho e' a d he 2 (by omega) (by omega)]
theorem bb_g1_hi {g : Int → Int} {e w v k : Int} (e0 : 0 ≤ e) (w0 : 0 ≤ w) (hk : k < 16) : bb_g1 g (16 + 51 * e + w) v k = g k := bb_g1_ne (by omega)
/-- one place of a book -/
theorem bb_WB_g1 {g : Int → Int} {e w v mn mn' : Int} (w0 : 0 ≤ w) (w1 : w < 51) (h : bb_WB g e mn) (hm : mn ≤ mn') (hv : (w = 4 ∧ 0 ≤ v ∧ v ≤ bb_R g e 3) ∨ (w = 6 ∧ 0 ≤ v ∧ v ≤ mn' + 30) ∨ (w = 2 ∧ 0 ≤ v ∧ v ≤ 4 ∧ (v = 0 ↔ bb_R g e 2 = 0)) ∨ (43 ≤ w ∧ 0 ≤ v ∧ v < 16777216)) : bb_WB (bb_g1 g (16 + 51 * e + w) v) e mn' := by
  have hn := bb_WB_n h
  have hR : ∀ q, 0 ≤ q → q < 51 → bb_R (bb_g1 g (16 + 51 * e + w) v) e q = if q = w then v else bb_R g e q := by
    intro q q0 q1
    rw [bb_R_g1 q0 q1 w0 w1]
    by_cases hq : q = w
    · rw [if_pos ⟨rfl, hq⟩, if_pos hq]
    · rw [if_neg (fun x => hq x.2), if_neg hq]
  refine ⟨?_, ?_, ?_, ?_, ?_, ?_, ?_, ?_, fun s s0 s1 => ?_, fun s s0 s1 => ?_, fun j j0 j1 => ?_⟩
  · rw [hR 0 (by omega) (by omega), if_neg (by omega)]; exact hn.1
  · rw [hR 1 (by omega) (by omega), if_neg (by omega)]; exact hn.2.1
  · rw [hR 2 (by omega) (by omega)]; split <;> omega
  · rw [hR 3 (by omega) (by omega), if_neg (by omega)]; exact hn.2.2.2.1
  · rw [hR 4 (by omega) (by omega), hR 3 (by omega) (by omega), if_neg (c := (3 : Int) = w) (by omega)]; split <;> omega
  · rw [hR 5 (by omega) (by omega), if_neg (by omega)]; omega
  · rw [hR 6 (by omega) (by omega)]; split <;> omega
  · rw [hR 2 (by omega) (by omega), hR 5 (by omega) (by omega), if_neg (c := (5 : Int) = w) (by omega)]; split <;> omega
  · rw [hR _ (by omega) (by omega), hR _ (by omega) (by omega), hR _ (by omega) (by omega), if_neg (by omega), if_neg (by omega), if_neg (by omega)]
    exact bb_WB_a h s0 s1
  · rw [hR 3 (by omega) (by omega), if_neg (by omega)] at s1
    rw [hR _ (by omega) (by omega), hR _ (by omega) (by omega), if_neg (by omega), if_neg (by omega)]
    exact bb_WB_s h s0 s1
  · rw [hR _ (by omega) (by omega)]
    have := bb_WB_l h j0 j1
    split <;> omega
theorem bb_WB_lo {g : Int → Int} {e k v mn mn' : Int} (e0 : 0 ≤ e) (hk : k < 16) (h : bb_WB g e mn) (hm : mn ≤ mn') : bb_WB (bb_g1 g k v) e mn' := bb_WB_congr (fun w w0 w1 => (bb_R_lo e0 w0 hk).symm) hm h
