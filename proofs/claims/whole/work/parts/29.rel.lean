/-! ===== what a book of the class and a row of the model have in common ===== -/
/-- whether the position p has a slip -/
def bb_sl (g : Int → Int) (e p : Int) : Int := bb_ib (bb_R g e (43 + p / 24)) (p % 24)
/-- the minutes that the glue still needs -/
def bb_nd (g : Int → Int) (e mn : Int) : Int := if bb_R g e 5 < 0 then 0 else max 0 (bb_R g e 6 - mn)
/-- the book b is the e-th of the row -/
def bb_KB (D : Nat → Int → Int) (L : Nat → Int → Int64) (b : Nat) (g : Int → Int) (e mn : Int) : Prop :=
  (D b 0 = bb_R g e 0 ∧ D b 1 = bb_R g e 1 ∧ D b 2 = bb_R g e 2 ∧ D b 3 = bb_R g e 3 ∧ D b 4 = bb_R g e 4 ∧ D b 6 = bb_R g e 5) ∧ D b 7 = bb_nd g e mn ∧ D b 5 = ab_S (bb_sl g e) 192 ∧
  (∀ s, 0 ≤ s → s < bb_R g e 3 → D (b + 1) s = bb_R g e (7 + 3 * s + 0) ∧ D (b + 3) s = bb_R g e (7 + 3 * s + 1) ∧ D (b + 4) s = bb_R g e (7 + 3 * s + 2) ∧ D (b + 2) s = bb_R g e (7 + 3 * s + 0) + ab_pw (bb_R g e (7 + 3 * s + 1)) - 1) ∧
  ∀ p, 0 ≤ p → p < 192 → bb_lb (L (b + 5) (p / 64)) (p % 64) = bb_sl g e p
/-- its rows hold what they may -/
def bb_AB (D : Nat → Int → Int) (b : Nat) : Prop := ∀ s, 0 ≤ s → s < 12 → (0 ≤ D (b + 1) s ∧ D (b + 1) s ≤ 99) ∧ (0 ≤ D (b + 2) s ∧ D (b + 2) s ≤ 114) ∧ (0 ≤ D (b + 3) s ∧ D (b + 3) s ≤ 3) ∧ (D (b + 4) s = 0 ∨ D (b + 4) s = 1)
/-- a book that is not planned -/
def bb_NB (D : Nat → Int → Int) (L : Nat → Int → Int64) (b : Nat) : Prop := (D b 2 = 0 ∧ D b 3 = 0 ∧ D b 4 = 0 ∧ D b 5 = 0 ∧ D b 6 = -1 ∧ D b 7 = 0) ∧ L (b + 5) 0 = 0 ∧ L (b + 5) 1 = 0 ∧ L (b + 5) 2 = 0
/-- the e-th of the row is a book -/
def bb_WB (g : Int → Int) (e mn : Int) : Prop :=
  (0 ≤ bb_R g e 0 ∧ bb_R g e 0 ≤ 96) ∧ (0 ≤ bb_R g e 1 ∧ bb_R g e 1 ≤ 5) ∧ (0 ≤ bb_R g e 2 ∧ bb_R g e 2 ≤ 4) ∧ (0 ≤ bb_R g e 3 ∧ bb_R g e 3 ≤ 12) ∧ (0 ≤ bb_R g e 4 ∧ bb_R g e 4 ≤ bb_R g e 3) ∧ (-1 ≤ bb_R g e 5 ∧ bb_R g e 5 ≤ 2) ∧ (0 ≤ bb_R g e 6 ∧ bb_R g e 6 ≤ mn + 30) ∧ (bb_R g e 2 = 0 ↔ bb_R g e 5 = -1) ∧
  (∀ s, 0 ≤ s → s < 12 → (0 ≤ bb_R g e (7 + 3 * s + 0) ∧ bb_R g e (7 + 3 * s + 0) ≤ 99) ∧ (0 ≤ bb_R g e (7 + 3 * s + 1) ∧ bb_R g e (7 + 3 * s + 1) ≤ 3) ∧ (bb_R g e (7 + 3 * s + 2) = 0 ∨ bb_R g e (7 + 3 * s + 2) = 1)) ∧
  (∀ s, 0 ≤ s → s < bb_R g e 3 → 1 ≤ bb_R g e (7 + 3 * s + 0) ∧ 1 ≤ bb_R g e (7 + 3 * s + 1)) ∧
  ∀ j, 0 ≤ j → j < 8 → 0 ≤ bb_R g e (43 + j) ∧ bb_R g e (43 + j) < 16777216
theorem bb_WB_n {g : Int → Int} {e mn : Int} (h : bb_WB g e mn) : (0 ≤ bb_R g e 0 ∧ bb_R g e 0 ≤ 96) ∧ (0 ≤ bb_R g e 1 ∧ bb_R g e 1 ≤ 5) ∧ (0 ≤ bb_R g e 2 ∧ bb_R g e 2 ≤ 4) ∧ (0 ≤ bb_R g e 3 ∧ bb_R g e 3 ≤ 12) ∧ (0 ≤ bb_R g e 4 ∧ bb_R g e 4 ≤ bb_R g e 3) ∧ (-1 ≤ bb_R g e 5 ∧ bb_R g e 5 ≤ 2) ∧ (0 ≤ bb_R g e 6 ∧ bb_R g e 6 ≤ mn + 30) ∧ (bb_R g e 2 = 0 ↔ bb_R g e 5 = -1) := ⟨h.1, h.2.1, h.2.2.1, h.2.2.2.1, h.2.2.2.2.1, h.2.2.2.2.2.1, h.2.2.2.2.2.2.1, h.2.2.2.2.2.2.2.1⟩
theorem bb_WB_a {g : Int → Int} {e mn : Int} (h : bb_WB g e mn) {s : Int} (h0 : 0 ≤ s) (h1 : s < 12) : (0 ≤ bb_R g e (7 + 3 * s + 0) ∧ bb_R g e (7 + 3 * s + 0) ≤ 99) ∧ (0 ≤ bb_R g e (7 + 3 * s + 1) ∧ bb_R g e (7 + 3 * s + 1) ≤ 3) ∧ (bb_R g e (7 + 3 * s + 2) = 0 ∨ bb_R g e (7 + 3 * s + 2) = 1) := h.2.2.2.2.2.2.2.2.1 s h0 h1
theorem bb_WB_s {g : Int → Int} {e mn : Int} (h : bb_WB g e mn) {s : Int} (h0 : 0 ≤ s) (h1 : s < bb_R g e 3) : 1 ≤ bb_R g e (7 + 3 * s + 0) ∧ 1 ≤ bb_R g e (7 + 3 * s + 1) := h.2.2.2.2.2.2.2.2.2.1 s h0 h1
theorem bb_WB_l {g : Int → Int} {e mn : Int} (h : bb_WB g e mn) {j : Int} (h0 : 0 ≤ j) (h1 : j < 8) : 0 ≤ bb_R g e (43 + j) ∧ bb_R g e (43 + j) < 16777216 := h.2.2.2.2.2.2.2.2.2.2 j h0 h1
theorem bb_WB_IR {g : Int → Int} {e mn : Int} (h : bb_WB g e mn) (hm : mn ≤ 90000000) : ab_IR g e := by
  have hn := bb_WB_n h
  exact ⟨hn.1, hn.2.1, hn.2.2.1, hn.2.2.2.1, hn.2.2.2.2.1, hn.2.2.2.2.2.1, by omega, fun s a b => bb_WB_a h a b⟩
theorem bb_sl_rg (g : Int → Int) (e p : Int) : bb_sl g e p = 0 ∨ bb_sl g e p = 1 := bb_ib_rg _ _
theorem bb_slS_rg (g : Int → Int) (e : Int) {n : Int} (h : 0 ≤ n) : 0 ≤ ab_S (bb_sl g e) n ∧ ab_S (bb_sl g e) n ≤ n := by
  have a := ab_Sle (f := bb_sl g e) (n := n) 1 h (fun i _ _ => by have := bb_sl_rg g e i; omega)
  have c := ab_Sge (f := bb_sl g e) (n := n) 0 h (fun i _ _ => by have := bb_sl_rg g e i; omega)
  omega
theorem bb_nd_rg {g : Int → Int} {e mn : Int} (h : bb_WB g e mn) (hm : 0 ≤ mn) : 0 ≤ bb_nd g e mn ∧ bb_nd g e mn ≤ 30 := by
  have hn := bb_WB_n h
  unfold bb_nd
  split <;> omega
theorem bb_KB_IB {D : Nat → Int → Int} {L : Nat → Int → Int64} {b : Nat} {g : Int → Int} {e mn : Int} (hk : bb_KB D L b g e mn) (ha : bb_AB D b) (hw : bb_WB g e mn) (hm : 0 ≤ mn) : ab_IB D b := by
  obtain ⟨⟨k0, k1, k2, k3, k4, k6⟩, k7, k5, ks, -⟩ := hk
  have hn := bb_WB_n hw
  have hd := bb_nd_rg hw hm
  have hs := bb_slS_rg g e (n := 192) (by omega)
  refine ⟨by rw [k0]; exact hn.1, by rw [k1]; exact hn.2.1, by rw [k2]; exact hn.2.2.1, by rw [k3]; exact hn.2.2.2.1, by rw [k4, k3]; exact hn.2.2.2.2.1, by rw [k5]; exact hs, by rw [k6]; exact hn.2.2.2.2.2.1, by rw [k7]; exact hd, ha, fun s h0 h1 => ?_⟩
  rw [k3] at h1
  obtain ⟨s1, s3, s4, s2⟩ := ks s h0 h1
  have := bb_WB_s hw h0 h1
  rw [s1, s2, s3]
  omega
/-! ===== what both say of it ===== -/
section
variable {D : Nat → Int → Int} {L : Nat → Int → Int64} {b : Nat} {g : Int → Int} {e mn : Int}
theorem bb_v_n (hk : bb_KB D L b g e mn) : D b 3 = bb_R g e 3 := hk.1.2.2.2.1
theorem bb_v_sz (hk : bb_KB D L b g e mn) {s : Int} (h0 : 0 ≤ s) (h1 : s < bb_R g e 3) : ab_sz D b s = ab_rsz g e s := by
  obtain ⟨s1, s3, s4, s2⟩ := hk.2.2.2.1 s h0 h1
  unfold ab_sz ab_rsz
  rw [s1, s2]
  omega
theorem bb_v_lf (hk : bb_KB D L b g e mn) (hw : bb_WB g e mn) {s i : Int} (h0 : 0 ≤ s) (h1 : s < bb_R g e 3) : ab_lf D b s i = ab_rlf g e s i := by
  obtain ⟨s1, s3, s4, s2⟩ := hk.2.2.2.1 s h0 h1
  have hn := bb_WB_n hw
  have ha := bb_WB_a hw h0 (by omega)
  unfold ab_lf ab_rlf ab_rsz
  rw [s1, s2, s4]
  omega
theorem bb_v_S (hk : bb_KB D L b g e mn) {s : Int} (h1 : s ≤ bb_R g e 3) : ab_S (ab_sz D b) s = ab_S (ab_rsz g e) s := ab_Scongr (fun i a c => bb_v_sz hk a (by omega))
theorem bb_v_all (hk : bb_KB D L b g e mn) : ab_all D b = ab_rall g e := by
  unfold ab_all ab_rall
  rw [bb_v_n hk]
  exact bb_v_S hk (Int.le_refl _)
theorem bb_v_page (hk : bb_KB D L b g e mn) (hw : bb_WB g e mn) (p : Int) : ab_page D b p = ab_rpage g e p := by
  unfold ab_page ab_rpage
  rw [bb_v_n hk]
  exact ab_pg_congr (bb_WB_n hw).2.2.2.1.1 (fun i a c => bb_v_sz hk a c) (fun i j a c _ _ => bb_v_lf hk hw a c)
theorem bb_v_wr (hk : bb_KB D L b g e mn) (hw : bb_WB g e mn) (p : Int) : ab_wr D b p = ab_rwr g e p := by
  unfold ab_wr ab_rwr
  rw [bb_v_page hk hw, hk.1.1]
  omega
theorem bb_v_wrong (hk : bb_KB D L b g e mn) (hw : bb_WB g e mn) : ab_wrong D b = ab_rwrong g e := by
  unfold ab_wrong ab_rwrong
  rw [bb_v_all hk]
  exact ab_Scongr (fun i _ _ => bb_v_wr hk hw i)
theorem bb_v_cw (hk : bb_KB D L b g e mn) (q : Int) : ab_cw D b q = ab_rcw g e q := by
  unfold ab_cw ab_rcw
  rw [bb_v_n hk]
  refine ab_Scongr (fun s h0 h1 => ?_)
  obtain ⟨s1, s3, s4, s2⟩ := hk.2.2.2.1 s h0 h1
  unfold ab_rsz
  rw [s1, s2]
theorem bb_v_mm (hk : bb_KB D L b g e mn) (j : Int) : ab_mm D b j = ab_rmm g e j := by
  unfold ab_mm ab_rmm
  rw [bb_v_cw hk]
theorem bb_v_miss (hk : bb_KB D L b g e mn) : ab_miss D b = ab_rmiss g e := by
  unfold ab_miss ab_rmiss
  rw [hk.1.1]
  exact ab_Scongr (fun i _ _ => bb_v_mm hk i)
theorem bb_v_th (hk : bb_KB D L b g e mn) {s : Int} (h0 : 0 ≤ s) (h1 : s < bb_R g e 3) : ab_th D b s = ab_rth g e s := by
  obtain ⟨s1, s3, s4, s2⟩ := hk.2.2.2.1 s h0 h1
  unfold ab_th ab_rth
  rw [s3, hk.1.2.1]
  split <;> omega
theorem bb_v_rc (hk : bb_KB D L b g e mn) (hw : bb_WB g e mn) {s : Int} (h0 : 0 ≤ s) (h1 : s < bb_R g e 3) : ab_rc D b s = ab_rri g e s := by
  obtain ⟨s1, s3, s4, s2⟩ := hk.2.2.2.1 s h0 h1
  have hn := bb_WB_n hw
  have ha := bb_WB_a hw h0 (by omega)
  have hz := ab_rsz_rg g e s
  have hS := bb_v_S hk (s := s) (by omega)
  have e1 : ab_pw (bb_R g e (7 + 3 * s + 1)) = ab_rsz g e s := rfl
  unfold ab_rc ab_rri ab_ru ab_rt
  rw [hS, bb_v_sz hk h0 h1, s1, s2, s4, hk.1.1, e1]
  by_cases ht : bb_R g e (7 + 3 * s + 2) = 0
  · rw [if_pos ht, if_pos ht]
    split <;> omega
  · rw [if_neg ht, if_neg ht]
    have e2 : bb_R g e (7 + 3 * s + 0) + ab_rsz g e s - 1 - (ab_S (ab_rsz g e) s + 1) = bb_R g e (7 + 3 * s + 0) + ab_rsz g e s - 2 - ab_S (ab_rsz g e) s := by omega
    rw [e2]
    congr 1
    refine propext ⟨fun h => ⟨h.1, h.2.1, by omega, by omega⟩, fun h => ⟨h.1, h.2.1, by omega, by omega⟩⟩
end
