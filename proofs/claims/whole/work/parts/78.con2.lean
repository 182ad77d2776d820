/-! ===== a book, a press, a shop ===== -/
def bb_l0 : Int → Int64 := fun _ => 0
def bb_dB (t : Nat) : Int → Int := if t = 0 then (fun k => if k = 6 then -1 else 0) else fun _ => 0
def bb_mkB (H : Nat → Option ab_C) (b : Nat) : Nat → Option ab_C := fun i => if b ≤ i ∧ i < b + 6 then some (ab_mb (bb_dB (i - b)) bb_l0 b (i - b)) else H i
def bb_mkP (H : Nat → Option ab_C) (b : Nat) : Nat → Option ab_C := fun i => if b ≤ i ∧ i < b + 2 then some (ab_mp (fun _ => 0) b (i - b)) else H i
theorem bb_y173 {K : ab_Kt} {H : Nat → Option ab_C} {b c s : Nat} (hb : H b = some (.inr (5, [.int 0, .int 0, .int 0, .int 0, .int 0, .int 0, .int 0, .int 0, .null, .null, .null, .null, .null]))) : ab_cal K 173 [.ref b] (H, b + 1, c, s) = some (.inl none, (bb_mkB H b, b + 6, c + 5, s + 51)) := by
  rw [ab_a173]
  refine (ab_e173_0).trans ?_
  refine (bb_gIni (congrFun ab_q173 1) (Nat.le_of_ble_eq_true rfl)).trans ?_
  refine (ab_e173_4).trans ?_
  refine (ab_e173_5).trans ?_
  refine (bb_gPut (congrFun ab_q173 6) hb (Nat.le_of_ble_eq_true rfl) rfl).trans ?_
  refine (ab_e173_9).trans ?_
  refine (ab_e173_10).trans ?_
  refine (bb_gA0 (n := 12) (N := 12) (congrFun ab_q173 12) (by decide) (by decide) rfl).trans ?_
  refine (bb_gPut (congrFun ab_q173 14) ((bb_st_ne (by omega)).trans bb_st_eq) (Nat.le_of_ble_eq_true rfl) rfl).trans ?_
  refine (ab_e173_17).trans ?_
  refine (ab_e173_18).trans ?_
  refine (bb_gA0 (n := 12) (N := 12) (congrFun ab_q173 20) (by decide) (by decide) rfl).trans ?_
  refine (bb_gPut (congrFun ab_q173 22) ((bb_st_ne (by omega)).trans bb_st_eq) (Nat.le_of_ble_eq_true rfl) rfl).trans ?_
  refine (ab_e173_25).trans ?_
  refine (ab_e173_26).trans ?_
  refine (bb_gA0 (n := 12) (N := 12) (congrFun ab_q173 28) (by decide) (by decide) rfl).trans ?_
  refine (bb_gPut (congrFun ab_q173 30) ((bb_st_ne (by omega)).trans bb_st_eq) (Nat.le_of_ble_eq_true rfl) rfl).trans ?_
  refine (ab_e173_33).trans ?_
  refine (ab_e173_34).trans ?_
  refine (bb_gA1 (n := 12) (N := 12) (congrFun ab_q173 36) (by decide) (by decide) rfl).trans ?_
  refine (bb_gPut (congrFun ab_q173 38) ((bb_st_ne (by omega)).trans bb_st_eq) (Nat.le_of_ble_eq_true rfl) rfl).trans ?_
  refine (ab_e173_41).trans ?_
  refine (ab_e173_42).trans ?_
  refine (bb_gA2 (n := 3) (N := 3) (congrFun ab_q173 43) (by decide) (by decide) rfl).trans ?_
  refine (bb_gPut (congrFun ab_q173 45) ((bb_st_ne (by omega)).trans bb_st_eq) (Nat.le_of_ble_eq_true rfl) rfl).trans ?_
  rw [ab_e173_48]
  refine bb_tup ?_ (by omega) (by omega) (by omega)
  funext i
  by_cases h : b ≤ i ∧ i < b + 6
  · obtain ⟨j, rfl⟩ : ∃ j, i = b + j := ⟨i - b, by omega⟩
    have hj : j = 0 ∨ j = 1 ∨ j = 2 ∨ j = 3 ∨ j = 4 ∨ j = 5 := by omega
    rw [show bb_mkB H b (b + j) = some (ab_mb (bb_dB (b + j - b)) bb_l0 b (b + j - b)) from if_pos h, Nat.add_sub_cancel_left]
    rcases hj with rfl | rfl | rfl | rfl | rfl | rfl
    all_goals (unfold bb_st; repeat' split)
    all_goals first | rfl | (exfalso; omega)
  · rw [show bb_mkB H b i = H i from if_neg h]
    unfold bb_st

    repeat' split
    all_goals first | rfl | (exfalso; omega)
theorem bb_y174 {K : ab_Kt} {H : Nat → Option ab_C} {b c s : Nat} (hb : H b = some (.inr (8, [.null, .int 0]))) : ab_cal K 174 [.ref b] (H, b + 1, c, s) = some (.inl none, (bb_mkP H b, b + 2, c + 1, s + 3)) := by
  rw [ab_a174]
  refine (ab_e174_0).trans ?_
  refine (bb_gIni (congrFun ab_q174 1) (Nat.le_of_ble_eq_true rfl)).trans ?_
  refine (ab_e174_4).trans ?_
  refine (ab_e174_5).trans ?_
  refine (bb_gA0 (n := 3) (N := 3) (congrFun ab_q174 6) (by decide) (by decide) rfl).trans ?_
  refine (bb_gPut (congrFun ab_q174 8) ((bb_st_ne (by omega)).trans hb) (Nat.le_of_ble_eq_true rfl) rfl).trans ?_
  rw [ab_e174_11]
  refine bb_tup ?_ (by omega) (by omega) (by omega)
  funext i
  by_cases h : b ≤ i ∧ i < b + 2
  · obtain ⟨j, rfl⟩ : ∃ j, i = b + j := ⟨i - b, by omega⟩
    have hj : j = 0 ∨ j = 1 := by omega
    rw [show bb_mkP H b (b + j) = some (ab_mp (fun _ => 0) b (b + j - b)) from if_pos h, Nat.add_sub_cancel_left]
    rcases hj with rfl | rfl
    all_goals (unfold bb_st; repeat' split)
    all_goals first | rfl | (exfalso; omega)
  · rw [show bb_mkP H b i = H i from if_neg h]
    unfold bb_st

    repeat' split
    all_goals first | rfl | (exfalso; omega)
