/-! ===== the line's row: more room, ends added ===== -/
section
variable {K : ab_Kt} {D : Nat → Int → Int} {L : Nat → Int → Int64} {z : ab_Z} {n : Int} {f : Nat → Int32}
theorem bb_sv_n (hz : bb_sv z) : bb_sv (bb_zn z n f) := ⟨by show z.1 = 498 ∨ (510 ≤ z.1 ∧ z.1 < 510 + (z.2.2.2.2.1 + 1)); have := hz.1; omega, hz.2⟩
theorem bb_e278_15 {x0 x1 x2 : Option Value} (hz : bb_sv z) (h0 : 0 ≤ n) (h1 : n ≤ 1000) : ab_ev K 278 15 [x0, x1, x2] [.int (ab_I n)] (ab_mk D L z) = ab_ev K 278 17 [x0, x1, x2] [.ref (bb_q z)] (ab_mk D L (bb_zn z n (fun _ => 0))) := ab_goI (op := ab_newa4 17) (congrFun ab_q278 15) (bb_oNew4 hz h0 h1)
theorem bb_e278_23n {x0 x1 x2 : Option Value} {s1 s2 s3 s4 : Value} (hz : bb_sv z) : ab_ev K 278 23 [x0, x1, x2] [.ref z.1, s1, s2, s3, s4] (ab_mk D L (bb_zn z n f)) = ab_ev K 278 24 [x0, x1, x2] [.int (ab_I (z.2.1 : Nat)), s1, s2, s3, s4] (ab_mk D L (bb_zn z n f)) := bb_e278_23 (z := bb_zn z n f) (bb_sv_n hz)
theorem bb_e278_28 {x0 x1 x2 : Option Value} (hS : bb_SB D z) (h0 : (z.2.1 : Nat) ≤ n) (h1 : n ≤ 1000) : ab_ev K 278 28 [x0, x1, x2] [.int (ab_I (z.2.1 : Nat)), .int (ab_I 0), .ref (bb_q z), .int (ab_I 0), .ref z.1] (ab_mk D L (bb_zn z n f)) = ab_ev K 278 31 [x0, x1, x2] [] (ab_mk D L (bb_zn z n (va_cpy (fun j : Nat => ab_I (D z.1 j)) f 0 0 z.2.1))) := ab_goI (op := ab_acopy 4 .byte 31) (congrFun ab_q278 28) (bb_oCopy4 hS h0 h1)
theorem bb_e265_35 {x0 x1 x2 : Option Value} (hS : bb_SB D z) : ab_ev K 265 35 [x0, x1, x2] [.ref (bb_q z), .ref 497] (ab_mk D L (bb_zn z n (va_cpy (fun j : Nat => ab_I (D z.1 j)) (fun _ => 0) 0 0 z.2.1))) = ab_ev K 265 38 [x0, x1, x2] [] (ab_mk (bb_gD D z) L (bb_gz D z n)) := ab_goI (op := ab_putf 1 0 (.array .byte) 38) (congrFun ab_q265 35) (bb_oGrow hS)
/-- the coder alone, in a row beside -/
theorem bb_e265_28n {x0 x1 x2 : Option Value} {s1 s2 s3 : Value} : ab_ev K 265 28 [x0, x1, x2] [.ref 497, s1, s2, s3] (ab_mk D L z) = ab_ev K 265 31 [x0, x1, x2] [.int (ab_I (D 497 1)), s1, s2, s3] (ab_mk D L z) := ab_goI (op := ab_getf 1 1 31) (congrFun ab_q265 28) (ab_oGetf rfl rfl)
theorem bb_SB_c (hS : bb_SB D z) : bb_sv z ∧ D 497 1 = 0 ∧ (0 ≤ D 497 3 ∧ D 497 3 ≤ (z.2.1 : Nat)) ∧ (z.2.1 : Nat) ≤ 1000 := ⟨hS.1, hS.2.1, hS.2.2.1, hS.1.2⟩
theorem bb_zn_le {n : Int} : z.2.2.2.2.2.1 ≤ (bb_zn z n f).2.2.2.2.2.1 ∧ z.2.2.2.2.2.2 ≤ (bb_zn z n f).2.2.2.2.2.2 := ⟨Nat.le_succ _, Nat.le_add_right _ _⟩
theorem bb_nat_r (x : Nat) (h : x ≤ 1000) : ab_rg (x : Int) := ab_rgI (by omega) (by omega)

theorem bb_y283 {a b c : Int} (h0 : 0 ≤ a) (h1 : a ≤ 1000) (h2 : 0 ≤ b) (h3 : b ≤ 1000) (h4 : 1 ≤ c) (h5 : c ≤ 100000) : ab_cal K 283 [.int (ab_I a), .int (ab_I b), .int (ab_I c)] (ab_mk D L z) = some (.inl (some (.int (ab_I (a + max b c)))), (ab_mk D L z)) := by
  simp (discharger := first | assumption | exact True.intro | exact not_false | (refine ab_gK ?_; with_unfolding_all rfl) | exact ab_rgI (by omega) (by omega) | omega) only [ab_a283, ab_e283_0, ab_e283_1, ab_e283_2, ab_e283_3, ab_e283_6, ab_e283_7, ab_e283_8, ab_e283_9, ab_e283_10, ab_e283_13, ab_e283_14, ab_e283_16, ab_e283_19, ab_e283_20, ab_e283_21, ab_e283_22, ab_br_t, ab_br_f, ab_re_v (ab_zz _), ab_re_n (ab_zz _)]

theorem bb_y277 (hS : bb_SB D z) {m : Int} (h0 : (z.2.1 : Nat) < m) (h1 : m ≤ 1000) : ab_cal K 277 [.ref 497, .int (ab_I m)] (ab_mk D L z) = some (.inl (some (.int (ab_I ((z.2.1 : Nat) + max (m - (z.2.1 : Nat)) ((z.2.1 : Nat) + 2))))), (ab_mk D L z)) := by
  obtain ⟨hz, hc, hn, hl⟩ := bb_SB_c hS
  simp (discharger := first | assumption | exact True.intro | exact not_false | (refine ab_gK ?_; with_unfolding_all rfl) | exact ab_rgI (by omega) (by omega) | omega) only [ab_a277, bb_y283, ab_e277_0, ab_e277_1, bb_e277_4, ab_e277_5, ab_e277_6, ab_e277_7, ab_e277_8, bb_e277_11, ab_e277_12, ab_e277_13, ab_e277_14, ab_e277_15, ab_e277_16, ab_e277_18, ab_e277_19, ab_e277_21, ab_e277_22, ab_e277_23, ab_e277_24, bb_e277_27, ab_e277_28, ab_e277_29, ab_e277_32, ab_e277_34, ab_e277_36, ab_e277_38, ab_e277_51, ab_e277_53, ab_e277_54, bb_e277_57, ab_e277_58, ab_br_t, ab_br_f, ab_re_v (ab_zz _), ab_re_n (ab_zz _)]

theorem bb_y278 (hS : bb_SB D z) (h0 : (z.2.1 : Nat) < n) (h1 : n ≤ 1000) : ab_cal K 278 [.ref z.1, .int (ab_I n)] (ab_mk D L z) = some (.inl (some (.ref (bb_q z))), ab_mk D L (bb_zn z n (va_cpy (fun j : Nat => ab_I (D z.1 j)) (fun _ => 0) 0 0 z.2.1))) := by
  obtain ⟨hz, hc, hn, hl⟩ := bb_SB_c hS
  have hmin : min (z.2.1 : Int) n = (z.2.1 : Nat) := by omega
  simp (discharger := first | assumption | exact True.intro | exact not_false | (refine ab_gK ?_; with_unfolding_all rfl) | exact ab_rgI (by omega) (by omega) | omega) only [ab_a278, bb_e278_15, bb_e278_23n, bb_e278_28, hmin, ab_e278_0, ab_e278_1, bb_e278_2, ab_e278_3, ab_e278_6, ab_e278_14, ab_e278_17, ab_e278_18, ab_e278_19, ab_e278_20, ab_e278_21, ab_e278_22, bb_e278_23, ab_e278_24, ab_e278_25, ab_e278_31, ab_e278_32, ab_br_t, ab_br_f, ab_re_v (ab_zz _), ab_re_n (ab_zz _)]

theorem bb_SB_grow (hS : bb_SB D z) (h0 : (z.2.1 : Nat) < n) (h1 : n ≤ 1000) : bb_SB (bb_gD D z) (bb_gz D z n) := by
  obtain ⟨hz, hc, hn, hl⟩ := bb_SB_c hS
  have hq9 := bb_q_eq z
  have e : bb_gD D z 497 = D 497 := bb_gD_row (by omega)
  refine ⟨⟨.inr ⟨by show 510 ≤ bb_q z; omega, by show bb_q z < 510 + (z.2.2.2.2.1 + 1); omega⟩, by show n.toNat ≤ 1000; omega⟩, by rw [e]; exact hc, by rw [e]; exact ⟨hn.1, by show D 497 3 ≤ (n.toNat : Nat); omega⟩, fun j j0 j1 => ?_⟩
  show 0 ≤ bb_gD D z (bb_q z) j ∧ bb_gD D z (bb_q z) j < 128
  unfold bb_gD
  rw [if_pos rfl]
  split
  · rename_i h
    exact hS.2.2.2 j h.1 h.2
  · omega
/-- what stays beside the line's row -/
def bb_LF (D : Nat → Int → Int) (z : ab_Z) (D' : Nat → Int → Int) (z' : ab_Z) : Prop := (∀ i, i < 510 → i ≠ 497 → i ≠ 498 → D' i = D i) ∧ z'.2.2.1 = z.2.2.1 ∧ z.2.2.2.2.2.1 ≤ z'.2.2.2.2.2.1 ∧ z.2.2.2.2.2.2 ≤ z'.2.2.2.2.2.2 ∧ z'.2.2.2.2.2.1 + z.2.1 ≤ z.2.2.2.2.2.1 + z'.2.1 ∧ z'.2.2.2.2.2.2 + 2 * z.2.1 ≤ z.2.2.2.2.2.2 + 2 * z'.2.1
theorem bb_LF_refl (D : Nat → Int → Int) (z : ab_Z) : bb_LF D z D z := ⟨fun _ _ _ _ => rfl, rfl, Nat.le_refl _, Nat.le_refl _, Nat.le_refl _, Nat.le_refl _⟩
theorem bb_LF_trans {D1 D2 D3 : Nat → Int → Int} {z1 z2 z3 : ab_Z} (h : bb_LF D1 z1 D2 z2) (h' : bb_LF D2 z2 D3 z3) : bb_LF D1 z1 D3 z3 := by
  obtain ⟨a1, a2, a3, a4, a5, a6⟩ := h
  obtain ⟨c1, c2, c3, c4, c5, c6⟩ := h'
  exact ⟨fun i h1 h2 h3 => (c1 i h1 h2 h3).trans (a1 i h1 h2 h3), c2.trans a2, by omega, by omega, by omega, by omega⟩
/-- the content -/
def bb_ct (f : Int → Int) (n : Int) (l : List Int) : Prop := n = l.length ∧ ∀ j : Nat, j < l.length → f j = l.getD j 0
theorem bb_y265 (hS : bb_SB D z) {m : Int} (h0 : 0 ≤ m) (h1 : m ≤ 400) : ∃ D' z', ab_cal K 265 [.ref 497, .int (ab_I m)] (ab_mk D L z) = some (.inl none, ab_mk D' L z') ∧ bb_SB D' z' ∧ m ≤ (z'.2.1 : Nat) ∧ D' 497 = D 497 ∧ (∀ j : Int, 0 ≤ j → j < (z.2.1 : Nat) → D' z'.1 j = D z.1 j) ∧ bb_LF D z D' z' := by
  obtain ⟨hz, hc, hn, hl⟩ := bb_SB_c hS
  by_cases h : m ≤ (z.2.1 : Nat)
  · refine ⟨D, z, ?_, hS, h, rfl, fun j _ _ => rfl, bb_LF_refl D z⟩
    simp (discharger := first | assumption | exact True.intro | exact not_false | (refine ab_gK ?_; with_unfolding_all rfl) | exact ab_rgI (by omega) (by omega) | omega) only [ab_a265, ab_e265_0, ab_e265_1, bb_e265_4, ab_e265_5, ab_e265_6, bb_e265_9, ab_e265_10, ab_e265_11, ab_e265_12, ab_e265_13, ab_e265_14, ab_e265_17, ab_e265_18, ab_e265_19, ab_e265_22, ab_e265_23, ab_e265_24, ab_e265_27, ab_e265_28, bb_e265_31, ab_e265_32, ab_e265_38, ab_br_t, ab_br_f, ab_re_v (ab_zz _), ab_re_n (ab_zz _)]
  · have hq9 := bb_q_eq z
    refine ⟨bb_gD D z, bb_gz D z ((z.2.1 : Nat) + max (m - (z.2.1 : Nat)) ((z.2.1 : Nat) + 2)), ?_, bb_SB_grow hS (by omega) (by omega), by show m ≤ (((z.2.1 : Nat) + max (m - (z.2.1 : Nat)) ((z.2.1 : Nat) + 2)).toNat : Nat); omega, bb_gD_row (by omega), fun j h0 h1 => ?_, fun i h1 h2 h3 => bb_gD_row (by omega), rfl, Nat.le_succ _, Nat.le_add_right _ _, ?_, ?_⟩
    simp (discharger := first | assumption | exact True.intro | exact not_false | (refine ab_gK ?_; with_unfolding_all rfl) | exact ab_rgI (by omega) (by omega) | omega) only [ab_a265, bb_y277, bb_y278, bb_e265_28n, bb_e265_35, ab_re_v bb_zn_le, ab_e265_0, ab_e265_1, bb_e265_4, ab_e265_5, ab_e265_6, bb_e265_9, ab_e265_10, ab_e265_11, ab_e265_12, ab_e265_13, ab_e265_14, ab_e265_17, ab_e265_18, ab_e265_19, ab_e265_22, ab_e265_23, ab_e265_24, ab_e265_27, bb_e265_31, ab_e265_32, ab_e265_38, ab_br_t, ab_br_f, ab_re_v (ab_zz _), ab_re_n (ab_zz _)]
    · show bb_gD D z (bb_q z) j = _
      unfold bb_gD
      rw [if_pos rfl, if_pos ⟨h0, h1⟩]
    · show z.2.2.2.2.2.1 + 1 + z.2.1 ≤ z.2.2.2.2.2.1 + (((z.2.1 : Nat) + max (m - (z.2.1 : Nat)) ((z.2.1 : Nat) + 2)) : Int).toNat
      omega
    · show z.2.2.2.2.2.2 + (((z.2.1 : Nat) + max (m - (z.2.1 : Nat)) ((z.2.1 : Nat) + 2)) : Int).toNat + 2 * z.2.1 ≤ z.2.2.2.2.2.2 + 2 * (((z.2.1 : Nat) + max (m - (z.2.1 : Nat)) ((z.2.1 : Nat) + 2)) : Int).toNat
      omega
end
