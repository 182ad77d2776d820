/-! ===== the commands are carried out one by one ===== -/
theorem bb_sc_W {c : Int → Int} {n p w v : Int} {g g' : Int → Int} (hpr : (bb_pr c n p).1 = 1) (hw : bb_WS w g) (hc : w + 1200 ≤ 50000000) (h : bb_sc g c n p = .inr (v, g')) : bb_WS (w + 1200) g' := by
  obtain ⟨v1, v2, v3, v4⟩ := bb_pr_v hpr
  rcases v1 with hch | hch | hch | hch | hch | hch | hch | hch | hch
  · rw [bb_sc_gather hch] at h
    exact bb_W_gather hw hc (v4 hch).2 h
  · rw [bb_sc_sew hch] at h
    exact bb_W_sew hw hc h
  · rw [bb_sc_unpick hch] at h
    exact bb_W_unpick hw hc h
  · rw [bb_sc_glue hch] at h
    exact bb_W_glue hw hc h
  · rw [bb_sc_press hch] at h
    exact bb_W_press hw hc h
  · rw [bb_sc_lift hch] at h
    exact bb_W_lift hw hc h
  · rw [bb_sc_slip hch] at h
    exact bb_W_slip hw hc h
  · rw [bb_sc_deliver hch] at h
    exact bb_W_deliver hw hc h
  · rw [bb_sc_pass hch] at h
    exact bb_W_pass hw hc h

theorem bb_sc_v {c : Int → Int} {n p w v : Int} {g g' : Int → Int} (hpr : (bb_pr c n p).1 = 1) (hw : bb_WS w g) (hc : w + 1200 ≤ 50000000) (h : bb_sc g c n p = .inr (v, g')) : bb_vr v := by
  obtain ⟨v1, v2, v3, v4⟩ := bb_pr_v hpr
  rcases v1 with hch | hch | hch | hch | hch | hch | hch | hch | hch
  · rw [bb_sc_gather hch] at h
    exact bb_v_gather hw h
  · rw [bb_sc_sew hch] at h
    exact bb_v_sew hw h
  · rw [bb_sc_unpick hch] at h
    exact bb_v_unpick hw h
  · rw [bb_sc_glue hch] at h
    exact bb_v_glue hw h
  · rw [bb_sc_press hch] at h
    exact bb_v_press hw h
  · rw [bb_sc_lift hch] at h
    exact bb_v_lift hw h
  · rw [bb_sc_slip hch] at h
    exact bb_v_slip hw h
  · rw [bb_sc_deliver hch] at h
    exact bb_v_deliver hw h
  · rw [bb_sc_pass hch] at h
    exact bb_v_pass hw hc h

theorem bb_sc_r {c : Int → Int} {n p r d : Int} {g : Int → Int} (hpr : (bb_pr c n p).1 = 1) (h : bb_sc g c n p = .inl (r, d)) : 1 ≤ r ∧ r ≤ 15 := by
  obtain ⟨v1, v2, v3, v4⟩ := bb_pr_v hpr
  rcases v1 with hch | hch | hch | hch | hch | hch | hch | hch | hch
  · rw [bb_sc_gather hch] at h
    exact bb_r_gather h
  · rw [bb_sc_sew hch] at h
    exact bb_r_sew h
  · rw [bb_sc_unpick hch] at h
    exact bb_r_unpick h
  · rw [bb_sc_glue hch] at h
    exact bb_r_glue h
  · rw [bb_sc_press hch] at h
    exact bb_r_press h
  · rw [bb_sc_lift hch] at h
    exact bb_r_lift h
  · rw [bb_sc_slip hch] at h
    exact bb_r_slip h
  · rw [bb_sc_deliver hch] at h
    exact bb_r_deliver h
  · rw [bb_sc_pass hch] at h
    exact bb_r_pass h

/-- the commands from the one at p (number q) on -/
def bb_ex (c : Int → Int) (n : Int) : Nat → Int → Int → (Int → Int) → (Int × Int × Int) ⊕ (Int → Int)
  | 0, _, _, g => .inr g
  | f + 1, p, q, g => match bb_sc g c n p with
    | .inl (r, d) => .inl (r, d, q)
    | .inr (_, g') => if ((bb_pr c n p).2 < n ∧ c ((bb_pr c n p).2) = 59) then bb_ex c n f ((bb_pr c n p).2 + 1) (q + 1) g' else .inr g'
section
variable {c : Int → Int} {n p q m r d v : Int} {g g' : Int → Int} {f : Nat}
theorem bb_ex_l (h : bb_sc g c n p = .inl (r, d)) : bb_ex c n (f + 1) p q g = .inl (r, d, q) := by
  unfold bb_ex
  rw [h]
theorem bb_ex_r (h : bb_sc g c n p = .inr (v, g')) : bb_ex c n (f + 1) p q g = if ((bb_pr c n p).2 < n ∧ c ((bb_pr c n p).2) = 59) then bb_ex c n f ((bb_pr c n p).2 + 1) (q + 1) g' else .inr g' := by
  conv => lhs; unfold bb_ex
  rw [h]
/-- a text without a fault: there is a command, and then its end or the next -/
theorem bb_fl_c (p0 : 0 ≤ p) (pn : p ≤ n) (h : bb_fl c n (f + 1) p q = (-1, m)) : (bb_pr c n p).1 = 1 ∧ ((¬ ((bb_pr c n p).2 < n ∧ c ((bb_pr c n p).2) = 59) ∧ m = q + 1) ∨ (((bb_pr c n p).2 < n ∧ c ((bb_pr c n p).2) = 59) ∧ bb_fl c n f ((bb_pr c n p).2 + 1) (q + 1) = (-1, m))) := by
  obtain ⟨r1, r2, r3, r4⟩ := bb_pr_rg c n p pn
  rw [bb_fl1] at h
  by_cases h3 : (bb_pr c n p).1 = 0
  · rw [if_pos h3] at h
    have := (Prod.mk.inj h).1
    omega
  rw [if_neg h3] at h
  refine ⟨by omega, ?_⟩
  by_cases h5 : n ≤ (bb_pr c n p).2
  · rw [if_pos h5] at h
    exact .inl ⟨fun x => absurd x.1 (by omega), (Prod.mk.inj h).2.symm⟩
  rw [if_neg h5] at h
  by_cases h7 : c (bb_pr c n p).2 = 59
  · rw [if_pos h7] at h
    exact .inr ⟨⟨by omega, h7⟩, h⟩
  · rw [if_neg h7] at h
    have := (Prod.mk.inj h).1
    omega
end
theorem bb_fl_m {c : Int → Int} {n m : Int} (n60 : n ≤ 60) (f : Nat) (p q : Int) (p0 : 0 ≤ p) (pn : p ≤ n) (qp : 3 * q ≤ p) (hf : 60 < p + f) (h : bb_fl c n f p q = (-1, m)) : q + 1 ≤ m ∧ m ≤ 20 := by
  cases f with
  | zero => omega
  | succ f =>
    obtain ⟨r1, r2, r3, r4⟩ := bb_pr_rg c n p pn
    obtain ⟨h1, h2⟩ := bb_fl_c p0 pn h
    have h3 := r4 h1
    rcases h2 with ⟨-, h2⟩ | ⟨h2, h4⟩
    · omega
    · have := bb_fl_m n60 f _ _ (by omega) (by omega) (by omega) (by omega) h4
      omega
theorem bb_fl_q {c : Int → Int} {n m : Int} (f : Nat) (p q : Int) (p0 : 0 ≤ p) (pn : p ≤ n) (h : bb_fl c n f p q = (-1, m)) : q + 1 ≤ m := by
  cases f with
  | zero =>
    have := (Prod.mk.inj h).1
    omega
  | succ f =>
    obtain ⟨r1, r2, r3, r4⟩ := bb_pr_rg c n p pn
    obtain ⟨h1, h2⟩ := bb_fl_c p0 pn h
    rcases h2 with ⟨-, h2⟩ | ⟨h2, h4⟩
    · omega
    · have := bb_fl_q f _ _ (by omega) (by omega) h4
      omega
theorem bb_ex_rg {c : Int → Int} {n m : Int} (f : Nat) (p q w : Int) (g : Int → Int) (p0 : 0 ≤ p) (pn : p ≤ n) (hf : n < p + f) (h : bb_fl c n f p q = (-1, m)) (hw : bb_WS w g) (hc : w + 1200 * (m - q) ≤ 50000000) : (∀ r d i, bb_ex c n f p q g = .inl (r, d, i) → (1 ≤ r ∧ r ≤ 15) ∧ q ≤ i ∧ i < m) ∧ (∀ g', bb_ex c n f p q g = .inr g' → bb_WS (w + 1200 * (m - q)) g') := by
  cases f with
  | zero => omega
  | succ f =>
    obtain ⟨r1, r2, r3, r4⟩ := bb_pr_rg c n p pn
    obtain ⟨h1, h2⟩ := bb_fl_c p0 pn h
    have h3 := r4 h1
    have hq := bb_fl_q _ _ _ p0 pn h
    have hc1 : w + 1200 ≤ 50000000 := by omega
    rcases hsc : bb_sc g c n p with ⟨r9, d9⟩ | ⟨v9, g9⟩
    · refine ⟨fun r d i e => ?_, fun g' e => ?_⟩
      · rw [bb_ex_l hsc] at e
        have e2 := Prod.mk.inj (Sum.inl.inj e)
        have e3 := Prod.mk.inj e2.2
        have := bb_sc_r h1 hsc
        omega
      · rw [bb_ex_l hsc] at e
        exact absurd e Sum.inl_ne_inr
    · have hw9 := bb_sc_W h1 hw hc1 hsc
      rw [bb_ex_r hsc]
      rcases h2 with ⟨h2, h4⟩ | ⟨h2, h4⟩
      · rw [if_neg h2]
        refine ⟨fun r d i e => absurd e Sum.inr_ne_inl, fun g' e => ?_⟩
        rw [← Sum.inr.inj e]
        exact bb_WS_mono (by omega) hc hw9
      · rw [if_pos h2]
        have hq2 := bb_fl_q f _ _ (by omega) (by omega) h4
        obtain ⟨i1, i2⟩ := bb_ex_rg f _ _ (w + 1200) g9 (by omega) (by omega) (by omega) h4 hw9 (by omega)
        refine ⟨fun r d i e => ?_, fun g' e => ?_⟩
        · have := i1 r d i e
          omega
        · exact bb_WS_mono (by omega) hc (i2 g' e)
