/-! ===== texts ===== -/
theorem bb_y271 {K : ab_Kt} {D : Nat → Int → Int} {L : Nat → Int → Int64} {z : ab_Z} {i : Nat} (hi : i < 6) : ab_cal K 271 [.ref (4 + 2 * i)] (ab_mk D L z) = some (.inl (some (.int (ab_I (if bb_len i = 0 then 1 else 0)))), (ab_mk D L z)) := by
  have hr : ab_rg (bb_len i) := by
    have : ∀ j, j < 6 → ab_rg (bb_len j) := by unfold ab_rg; decide
    exact this i hi
  simp (discharger := first | assumption | exact True.intro | exact not_false | (refine ab_gK ?_; with_unfolding_all rfl) | exact ab_rgI (by omega) (by omega) | omega) only [ab_a271, ab_e271_0, bb_e271_1, bb_e271_4, ab_e271_5, ab_e271_8, ab_e271_9, ab_e271_12, ab_e271_13, ab_br_t, ab_br_f, ab_re_v (ab_zz _), ab_re_n (ab_zz _)]
  iterate 1 (all_goals (try (refine ab_br_c (fun hc => ?_) (fun hc => ?_) <;> try simp (discharger := first | assumption | exact True.intro | exact not_false | (refine ab_gK ?_; with_unfolding_all rfl) | exact ab_rgI (by omega) (by omega) | omega) only [ab_a271, ab_e271_0, bb_e271_1, bb_e271_4, ab_e271_5, ab_e271_8, ab_e271_9, ab_e271_12, ab_e271_13, ab_br_t, ab_br_f, ab_re_v (ab_zz _), ab_re_n (ab_zz _)])))
  all_goals exact ab_fin (by omega) rfl

theorem bb_y279 {K : ab_Kt} {D : Nat → Int → Int} {L : Nat → Int → Int64} {z : ab_Z} {i : Nat} (hi : i < 6) : ab_cal K 279 [.ref (4 + 2 * i)] (ab_mk D L z) = some (.inl (some (.int (ab_I (0)))), (ab_mk D L z)) := by
  simp (discharger := first | assumption | exact True.intro | exact not_false | (refine ab_gK ?_; with_unfolding_all rfl) | exact ab_rgI (by omega) (by omega) | omega) only [ab_a279, bb_e279_0, ab_e279_3, ab_e279_6, bb_e279_7, ab_e279_10, ab_e279_13, ab_e279_14, ab_br_t, ab_br_f, ab_re_v (ab_zz _), ab_re_n (ab_zz _)]

theorem bb_y280 {K : ab_Kt} {D : Nat → Int → Int} {L : Nat → Int → Int64} {z : ab_Z} {i : Nat} (hi : i < 6) : ab_cal K 280 [.ref (4 + 2 * i)] (ab_mk D L z) = some (.inl (some (.int (ab_I (1)))), (ab_mk D L z)) := by
  simp (discharger := first | assumption | exact True.intro | exact not_false | (refine ab_gK ?_; with_unfolding_all rfl) | exact ab_rgI (by omega) (by omega) | omega) only [ab_a280, bb_e280_0, ab_e280_3, ab_e280_6, bb_e280_7, ab_e280_10, ab_e280_13, ab_e280_14, ab_e280_17, ab_e280_18, ab_br_t, ab_br_f, ab_re_v (ab_zz _), ab_re_n (ab_zz _)]

theorem bb_y272 {K : ab_Kt} {D : Nat → Int → Int} {L : Nat → Int → Int64} {z : ab_Z} {i : Nat} (hi : i < 6) : ab_cal K 272 [.ref (4 + 2 * i)] (ab_mk D L z) = some (.inl (some (.int (ab_I (bb_len i)))), (ab_mk D L z)) := by
  simp (discharger := first | assumption | exact True.intro | exact not_false | (refine ab_gK ?_; with_unfolding_all rfl) | exact ab_rgI (by omega) (by omega) | omega) only [ab_a272, bb_y279, ab_e272_0, bb_e272_1, bb_e272_4, ab_e272_5, bb_e272_6, bb_e272_9, ab_e272_10, ab_br_t, ab_br_f, ab_re_v (ab_zz _), ab_re_n (ab_zz _)]

theorem bb_y276 {K : ab_Kt} {D : Nat → Int → Int} {L : Nat → Int → Int64} {z : ab_Z} {i n : Int} (h0 : 0 ≤ i) (h1 : i < n) (h2 : n ≤ 1000000) {v : Value} (hv : v.category = 1) : ab_cal K 276 [.int (ab_I i), .int (ab_I n), v] (ab_mk D L z) = some (.inl (some (.int (ab_I (i)))), (ab_mk D L z)) := by
  simp (discharger := first | assumption | exact True.intro | exact not_false | (refine ab_gK ?_; with_unfolding_all rfl) | exact ab_rgI (by omega) (by omega) | omega) only [ab_a276, ab_e276_0, ab_e276_1, ab_e276_4, ab_e276_5, ab_e276_6, ab_e276_9, ab_e276_10, ab_e276_11, ab_e276_16, ab_e276_17, ab_br_t, ab_br_f, ab_re_v (ab_zz _), ab_re_n (ab_zz _)]

theorem bb_y264 {K : ab_Kt} {D : Nat → Int → Int} {L : Nat → Int → Int64} {z : ab_Z} {i n : Int} (h0 : 0 ≤ i) (h1 : i < n) (h2 : n ≤ 1000000) : ab_cal K 264 [.int (ab_I i), .int (ab_I n)] (ab_mk D L z) = some (.inl none, (ab_mk D L z)) := by
  have hv : (if K.2.2 = true then Value.null else .ref 16).category = 1 := by split <;> rfl
  simp (discharger := first | assumption | exact True.intro | exact not_false | (refine ab_gK ?_; with_unfolding_all rfl) | exact ab_rgI (by omega) (by omega) | omega) only [ab_a264, bb_y276, ab_e264_0, ab_e264_1, bb_e264_2, ab_e264_5, ab_e264_8, ab_e264_9, ab_br_t, ab_br_f, ab_re_v (ab_zz _), ab_re_n (ab_zz _)]

theorem bb_getD_mem : ∀ (l : List Int32) (n : Nat), l.getD n 0 ∈ 0 :: l
  | [], _ => List.mem_cons_self
  | x :: _, 0 => List.mem_cons_of_mem _ List.mem_cons_self
  | _ :: l, n + 1 => by
    have h := bb_getD_mem l n
    rcases List.mem_cons.mp h with h | h
    · exact List.mem_cons.mpr (.inl h)
    · exact List.mem_cons_of_mem _ (List.mem_cons_of_mem _ h)
theorem bb_byt_rg {i : Nat} {k : Int} (hi : i < 6) : 0 ≤ bb_byt i k ∧ bb_byt i k < 128 := by
  unfold bb_byt
  have h : ∀ j, j < 6 → ∀ x ∈ (0 :: ab_byt.getD j []), 0 ≤ x.toInt ∧ x.toInt < 128 := by decide
  exact h i hi _ (bb_getD_mem _ _)
theorem bb_len_rg {i : Nat} (hi : i < 6) : 0 ≤ bb_len i ∧ bb_len i ≤ 6 := by
  have : ∀ j, j < 6 → 0 ≤ bb_len j ∧ bb_len j ≤ 6 := by decide
  exact this i hi
theorem bb_y281 {K : ab_Kt} {D : Nat → Int → Int} {L : Nat → Int → Int64} {z : ab_Z} {i : Nat} (hi : i < 6) {k : Int} (h0 : 0 ≤ k) (h1 : k < bb_len i) : ab_cal K 281 [.ref (5 + 2 * i), .int (ab_I k)] (ab_mk D L z) = some (.inl (some (.int (ab_I (bb_byt i k)))), (ab_mk D L z)) := by
  have hl := bb_len_rg hi
  have hb := bb_byt_rg (k := k) hi
  simp (discharger := first | assumption | exact True.intro | exact not_false | (refine ab_gK ?_; with_unfolding_all rfl) | exact ab_rgI (by omega) (by omega) | omega) only [ab_a281, bb_y264, ab_e281_0, ab_e281_1, bb_e281_2, ab_e281_3, ab_e281_6, ab_e281_7, bb_e281_8, ab_e281_9, bb_e281_12, bb_e281_13, ab_e281_14, ab_br_t, ab_br_f, ab_re_v (ab_zz _), ab_re_n (ab_zz _)]

theorem bb_y273 {K : ab_Kt} {D : Nat → Int → Int} {L : Nat → Int → Int64} {z : ab_Z} {i : Nat} (hi : i < 6) {k : Int} (h0 : 0 ≤ k) (h1 : k < bb_len i) : ab_cal K 273 [.ref (4 + 2 * i), .int (ab_I k)] (ab_mk D L z) = some (.inl (some (.int (ab_I (bb_byt i k)))), (ab_mk D L z)) := by
  have hl := bb_len_rg hi
  have hb := bb_byt_rg (k := k) hi
  simp (discharger := first | assumption | exact True.intro | exact not_false | (refine ab_gK ?_; with_unfolding_all rfl) | exact ab_rgI (by omega) (by omega) | omega) only [ab_a273, bb_y280, bb_y281, ab_e273_0, bb_e273_1, ab_e273_4, ab_e273_7, bb_e273_8, ab_e273_11, ab_e273_12, ab_e273_15, ab_e273_16, bb_e273_17, ab_e273_20, ab_br_t, ab_br_f, ab_re_v (ab_zz _), ab_re_n (ab_zz _)]

/-! ===== the line's row ===== -/
/-- the row of the line: where, its mark, its length, what it holds -/
def bb_SB (D : Nat → Int → Int) (z : ab_Z) : Prop := bb_sv z ∧ D 497 1 = 0 ∧ (0 ≤ D 497 3 ∧ D 497 3 ≤ (z.2.1 : Nat)) ∧ ∀ j : Int, 0 ≤ j → j < (z.2.1 : Nat) → 0 ≤ D z.1 j ∧ D z.1 j < 128
theorem bb_mr_hi {d : Int → Int} {l : Int → Int64} {z : ab_Z} {i : Nat} (h : 510 ≤ i) : ab_mr d l z i = if i = z.1 then some (.inl (4, z.2.1, .inl (fun j : Nat => ab_I (d j)))) else z.2.2.2.1 i := by
  unfold ab_mr
  rw [if_neg (by omega), if_neg (by omega), if_neg (by omega), if_neg (by omega), if_neg (by omega), if_neg (by omega), if_neg (by omega)]
  have e : ∀ k, 16 ≤ k → ab_mo d l z i k = if i = z.1 then some (.inl (4, z.2.1, .inl (fun j : Nat => ab_I (d j)))) else z.2.2.2.1 i := by
    intro k hk
    unfold ab_mo
    split <;> first | omega | rfl
  exact e _ (by omega)
theorem bb_mr_494 {d : Int → Int} {l : Int → Int64} {z z' : ab_Z} {i : Nat} (h : i < 494) : ab_mr d l z' i = ab_mr d l z i := by
  unfold ab_mr
  simp only [h, if_true]
theorem bb_mr_509 {d : Int → Int} {l : Int → Int64} {z : ab_Z} : ab_mr d l z 509 = some (.inl (5, 1, .inr (.inr (.inr (.inl z.2.2.1))))) := rfl
theorem bb_mr_lo {d : Int → Int} {l : Int → Int64} {z z' : ab_Z} {i : Nat} (h : i < 510) (h1 : z'.2.2.1 = z.2.2.1) (h2 : i ≠ 497) (h3 : i ≠ 498) : ab_mr d l z' i = ab_mr d l z i := by
  by_cases h9 : i < 494
  · exact bb_mr_494 h9
  · have e : i = 494 ∨ i = 495 ∨ i = 496 ∨ i = 499 ∨ i = 500 ∨ i = 501 ∨ i = 502 ∨ i = 503 ∨ i = 504 ∨ i = 505 ∨ i = 506 ∨ i = 507 ∨ i = 508 ∨ i = 509 := by omega
    rcases e with rfl | rfl | rfl | rfl | rfl | rfl | rfl | rfl | rfl | rfl | rfl | rfl | rfl | rfl
    all_goals first | rfl | rw [bb_mr_509, bb_mr_509, h1]
theorem bb_mr_497 {d : Int → Int} {l : Int → Int64} {z : ab_Z} : ab_mr d l z 497 = some (.inr (1, [.ref z.1, .int (ab_I (d 1)), .int (ab_I (d 2)), .int (ab_I (d 3))])) := rfl
theorem bb_mr_498 {d : Int → Int} {l : Int → Int64} {z : ab_Z} : ab_mr d l z 498 = if 498 = z.1 then some (.inl (4, z.2.1, .inl (fun j : Nat => ab_I (d j)))) else z.2.2.2.1 498 := rfl
/-- the next id -/
def bb_q (z : ab_Z) : Nat := 510 + z.2.2.2.2.1
theorem bb_q_eq (z : ab_Z) : bb_q z = 510 + z.2.2.2.2.1 := rfl
/-- a new row of bytes beside -/
def bb_zn (z : ab_Z) (n : Int) (f : Nat → Int32) : ab_Z := (z.1, z.2.1, z.2.2.1, (fun i => if i = bb_q z then some (.inl (4, n.toNat, .inl f)) else z.2.2.2.1 i), z.2.2.2.2.1 + 1, z.2.2.2.2.2.1 + 1, z.2.2.2.2.2.2 + n.toNat)
theorem bb_oNew4 {nx : Nat} {n : Int} {ls : ab_Ls} {st : List Value} {D : Nat → Int → Int} {L : Nat → Int → Int64} {z : ab_Z} (hz : bb_sv z) (h0 : 0 ≤ n) (h1 : n ≤ 1000) : ab_newa4 nx ls (.int (ab_I n) :: st) (ab_mk D L z) = some (.inl (nx, ls, .ref (bb_q z) :: st, ab_mk D L (bb_zn z n (fun _ => 0)))) := by
  unfold ab_newa4
  dsimp only
  rw [if_pos ⟨(ab_I_le ab_rg0 ⟨by omega, by omega⟩).mpr h0, by rw [ab_I_clamp h0 (by omega)]; omega⟩, ab_I_clamp h0 (by omega)]
  have e : ab_new (ab_mk D L z) (.inl (4, n.toNat, .inl (fun _ => 0))) n.toNat = ab_mk D L (bb_zn z n (fun _ => 0)) := by
    have e1 : (fun j => if j = bb_q z then some (Sum.inl (4, n.toNat, .inl (fun _ => 0))) else ab_mr (D j) (L j) z j) = fun i => ab_mr (D i) (L i) (bb_zn z n (fun _ => 0)) i := by
      funext i
      have hs := hz.1
      have hq9 := bb_q_eq z
      by_cases hi : 510 ≤ i
      · rw [bb_mr_hi hi, bb_mr_hi hi]
        by_cases h9 : i = bb_q z
        · rw [if_pos h9]
          exact ((if_neg (show ¬ i = z.1 by omega)).trans (if_pos h9)).symm
        · rw [if_neg h9]
          by_cases h8 : i = z.1
          · rw [if_pos h8]; exact (if_pos h8).symm
          · rw [if_neg h8]
            refine ((if_neg h8).trans ?_).symm
            exact if_neg h9
      · rw [if_neg (by omega)]
        by_cases h7 : i = 497
        · subst h7; rfl
        · by_cases h8 : i = 498
          · subst h8
            rw [bb_mr_498, bb_mr_498]
            show _ = if 498 = z.1 then _ else (if 498 = bb_q z then _ else z.2.2.2.1 498)
            rw [if_neg (show ¬ 498 = bb_q z by omega)]
            rfl
          · exact (bb_mr_lo (z := z) (z' := bb_zn z n (fun _ => 0)) (by omega) rfl h7 h8).symm
    unfold ab_new
    show ((fun j => if j = bb_q z then some (Sum.inl (4, n.toNat, .inl (fun _ => 0))) else ab_mr (D j) (L j) z j), bb_q z + 1, z.2.2.2.2.2.1 + 1, z.2.2.2.2.2.2 + n.toNat) = _
    rw [e1]
    unfold ab_mk bb_zn
    dsimp only
    rw [show bb_q z + 1 = 510 + (z.2.2.2.2.1 + 1) from by rw [bb_q_eq, Nat.add_assoc]]
  rw [e]
  rfl
/-- the cell of the new row -/
theorem bb_mr_new {d : Int → Int} {l : Int → Int64} {z : ab_Z} {n : Int} {f : Nat → Int32} (hz : bb_sv z) : ab_mr d l (bb_zn z n f) (bb_q z) = some (.inl (4, n.toNat, .inl f)) := by
  have hs := hz.1
  have hq9 := bb_q_eq z
  rw [bb_mr_hi (by omega)]
  exact (if_neg (show ¬ bb_q z = z.1 by omega)).trans (if_pos rfl)
theorem bb_set_new {D : Nat → Int → Int} {L : Nat → Int → Int64} {z : ab_Z} {n : Int} {f g : Nat → Int32} (hz : bb_sv z) : ab_set (ab_mk D L (bb_zn z n f)) (bb_q z) (.inl (4, n.toNat, .inl g)) = ab_mk D L (bb_zn z n g) := by
  have e1 : (fun j => if j = bb_q z then some (Sum.inl (4, n.toNat, .inl g)) else ab_mr (D j) (L j) (bb_zn z n f) j) = fun i => ab_mr (D i) (L i) (bb_zn z n g) i := by
    funext i
    have hs := hz.1
    have hq9 := bb_q_eq z
    by_cases h9 : i = bb_q z
    · subst h9
      rw [if_pos rfl, bb_mr_new hz]
    · rw [if_neg h9]
      by_cases hi : 510 ≤ i
      · rw [bb_mr_hi hi, bb_mr_hi hi]
        show (if i = z.1 then _ else (if i = bb_q z then _ else z.2.2.2.1 i)) = (if i = z.1 then _ else (if i = bb_q z then _ else z.2.2.2.1 i))
        rw [if_neg h9, if_neg h9]
        rfl
      · by_cases h7 : i = 497
        · subst h7; rfl
        · by_cases h8 : i = 498
          · subst h8
            rw [bb_mr_498, bb_mr_498]
            show (if 498 = z.1 then _ else (if 498 = bb_q z then _ else z.2.2.2.1 498)) = if 498 = z.1 then _ else (if 498 = bb_q z then _ else z.2.2.2.1 498)
            rw [if_neg (show ¬ 498 = bb_q z by omega), if_neg (show ¬ 498 = bb_q z by omega)]
            rfl
          · exact bb_mr_lo (by omega) rfl h7 h8
  unfold ab_set
  show ((fun j => if j = bb_q z then some (Sum.inl (4, n.toNat, .inl g)) else ab_mr (D j) (L j) (bb_zn z n f) j), 510 + (z.2.2.2.2.1 + 1), z.2.2.2.2.2.1 + 1, z.2.2.2.2.2.2 + n.toNat) = _
  rw [e1]
  rfl
theorem bb_fits {x : Int} (h0 : 0 ≤ x) (h1 : x < 128) : fits .byte (.int (ab_I x)) = true := by
  have : ∀ n : Nat, n < 128 → fits .byte (.int (nI n)) = true := by decide +kernel
  rw [bb_I_n h0]
  exact this _ (by omega)
theorem bb_oCopy4 {nx : Nat} {n : Int} {f : Nat → Int32} {ls : ab_Ls} {D : Nat → Int → Int} {L : Nat → Int → Int64} {z : ab_Z} (hS : bb_SB D z) (h0 : (z.2.1 : Nat) ≤ n) (h1 : n ≤ 1000) : ab_acopy 4 .byte nx ls [.int (ab_I (z.2.1 : Nat)), .int (ab_I 0), .ref (bb_q z), .int (ab_I 0), .ref z.1] (ab_mk D L (bb_zn z n f)) = some (.inl (nx, ls, [], ab_mk D L (bb_zn z n (va_cpy (fun j : Nat => ab_I (D z.1 j)) f 0 0 z.2.1)))) := by
  have hsv : bb_sv (bb_zn z n f) := ⟨by show z.1 = 498 ∨ (510 ≤ z.1 ∧ z.1 < 510 + (z.2.2.2.2.1 + 1)); have := hS.1.1; omega, hS.1.2⟩
  have hq := hS.1.2
  have hq9 := bb_q_eq z
  have c0 : (ab_I 0).toNatClampNeg = 0 := by decide +kernel
  have cn : (ab_I (z.2.1 : Nat)).toNatClampNeg = z.2.1 := by rw [ab_I_clamp (by omega) (by omega)]; omega
  have hall : (List.range z.2.1).all (fun i => fits .byte (.int (ab_I (D z.1 ((0 + i : Nat) : Int))))) = true := by
    rw [List.all_eq_true]
    intro i hi
    have hi := List.mem_range.mp hi
    have := hS.2.2.2 ((0 + i : Nat) : Int) (by omega) (by omega)
    exact bb_fits this.1 this.2
  unfold ab_acopy
  dsimp only
  rw [show (ab_mk D L (bb_zn z n f)).1 z.1 = some (.inl (4, z.2.1, .inl (fun j : Nat => ab_I (D z.1 j)))) from bb_mr_sv (d := D z.1) (l := L z.1) (z := bb_zn z n f) hsv, show (ab_mk D L (bb_zn z n f)).1 (bb_q z) = some (.inl (4, n.toNat, .inl f)) from bb_mr_new (d := D (bb_q z)) (l := L (bb_q z)) hS.1]
  dsimp only
  rw [cn, c0, if_pos ⟨rfl, rfl, by decide +kernel, by decide +kernel, (ab_I_le ab_rg0 ⟨by omega, by omega⟩).mpr (by omega), by omega, by omega, by decide, hall⟩, bb_set_new hS.1]
/-- the row grown -/
def bb_gD (D : Nat → Int → Int) (z : ab_Z) : Nat → Int → Int := fun i j => if i = bb_q z then (if 0 ≤ j ∧ j < (z.2.1 : Nat) then D z.1 j else 0) else D i j
def bb_gz (D : Nat → Int → Int) (z : ab_Z) (n : Int) : ab_Z := (bb_q z, n.toNat, z.2.2.1, (fun i => if i = z.1 then some (.inl (4, z.2.1, .inl (fun j : Nat => ab_I (D z.1 j)))) else z.2.2.2.1 i), z.2.2.2.2.1 + 1, z.2.2.2.2.2.1 + 1, z.2.2.2.2.2.2 + n.toNat)
theorem bb_gD_row {D : Nat → Int → Int} {z : ab_Z} {i : Nat} (h : i ≠ bb_q z) : bb_gD D z i = D i := by
  funext j
  exact if_neg h
theorem bb_oGrow {nx : Nat} {n : Int} {ls : ab_Ls} {st : List Value} {D : Nat → Int → Int} {L : Nat → Int → Int64} {z : ab_Z} (hS : bb_SB D z) : ab_putf 1 0 (.array .byte) nx ls (.ref (bb_q z) :: .ref 497 :: st) (ab_mk D L (bb_zn z n (va_cpy (fun j : Nat => ab_I (D z.1 j)) (fun _ => 0) 0 0 z.2.1))) = some (.inl (nx, ls, st, ab_mk (bb_gD D z) L (bb_gz D z n))) := by
  have hs := hS.1.1
  have hq9 := bb_q_eq z
  refine ab_oPutf (ci := 1) (k := 0) (fs := [.ref z.1, .int (ab_I (D 497 1)), .int (ab_I (D 497 2)), .int (ab_I (D 497 3))]) rfl (Nat.le_of_ble_eq_true rfl) rfl ?_
  have e1 : (fun j => if j = 497 then some (Sum.inr (1, [Value.ref (bb_q z), .int (ab_I (D 497 1)), .int (ab_I (D 497 2)), .int (ab_I (D 497 3))])) else ab_mr (D j) (L j) (bb_zn z n (va_cpy (fun j : Nat => ab_I (D z.1 j)) (fun _ => 0) 0 0 z.2.1)) j) = fun i => ab_mr (bb_gD D z i) (L i) (bb_gz D z n) i := by
    funext i
    by_cases h7 : i = 497
    · subst h7
      rw [if_pos rfl, bb_mr_497, bb_gD_row (by omega)]
      rfl
    · rw [if_neg h7]
      by_cases hi : 510 ≤ i
      · rw [bb_mr_hi hi, bb_mr_hi hi]
        show (if i = z.1 then _ else (if i = bb_q z then _ else z.2.2.2.1 i)) = (if i = bb_q z then _ else (if i = z.1 then _ else z.2.2.2.1 i))
        by_cases h9 : i = bb_q z
        · rw [if_neg (by omega), if_pos h9, if_pos h9, h9]
          show some (Sum.inl (4, n.toNat, Sum.inl _)) = some (Sum.inl (4, n.toNat, Sum.inl _))
          congr 5
          funext j
          unfold bb_gD
          rw [if_pos rfl]
          by_cases hj : j < z.2.1
          · rw [pk_cpy_in (by omega) (by omega), if_pos ⟨by omega, by omega⟩]
            congr 2
            omega
          · rw [pk_cpy_out (by omega), if_neg (by omega)]
            rfl
        · rw [if_neg h9, if_neg h9]
          by_cases h8 : i = z.1
          · rw [if_pos h8, if_pos h8, h8]
            rfl
          · rw [if_neg h8, if_neg h8]
      · rw [bb_gD_row (by omega)]
        by_cases h8 : i = 498
        · subst h8
          rw [bb_mr_498, bb_mr_498]
          show (if 498 = z.1 then _ else (if 498 = bb_q z then _ else z.2.2.2.1 498)) = (if 498 = bb_q z then _ else (if 498 = z.1 then _ else z.2.2.2.1 498))
          rw [if_neg (show ¬ 498 = bb_q z by omega), if_neg (show ¬ 498 = bb_q z by omega)]
          by_cases h9 : 498 = z.1
          · rw [if_pos h9, if_pos h9, h9]
            rfl
          · rw [if_neg h9, if_neg h9]
        · exact bb_mr_lo (z := bb_gz D z n) (z' := bb_zn z n (va_cpy (fun j : Nat => ab_I (D z.1 j)) (fun _ => 0) 0 0 z.2.1)) (by omega) rfl h7 h8
  unfold ab_set
  show ((fun j => if j = 497 then some (Sum.inr (1, [Value.ref (bb_q z), .int (ab_I (D 497 1)), .int (ab_I (D 497 2)), .int (ab_I (D 497 3))])) else ab_mr (D j) (L j) (bb_zn z n (va_cpy (fun j : Nat => ab_I (D z.1 j)) (fun _ => 0) 0 0 z.2.1)) j), 510 + (z.2.2.2.2.1 + 1), z.2.2.2.2.2.1 + 1, z.2.2.2.2.2.2 + n.toNat) = _
  rw [e1]
  rfl
