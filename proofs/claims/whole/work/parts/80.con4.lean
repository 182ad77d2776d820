/-! ===== the world that the constructors make ===== -/
def bc_D0 : Nat → Int → Int := fun i => if i = 17 then (fun k => if k = 6 then -1 else 0) else if 19 ≤ i ∧ i < 62 then bb_dS (i - 19) else if 64 ≤ i ∧ i < 494 then bb_dS ((i - 64) % 43) else if i = 500 then (fun k => if k = 13 then -1 else 0) else if i = 501 then (fun k => if k = 1 then 20 else if k = 2 then 100 else 0) else fun _ => 0
def bc_L0 : Nat → Int → Int64 := fun _ => bb_l0
def bc_z0 : ab_Z := (498, 16, fun _ => 0, fun _ => none, 0, 493, 8578)
def bc_W (i : Nat) : Option ab_C := ab_mr (bc_D0 i) (bc_L0 i) bc_z0 i
def bc_ex (H : Nat → Option ab_C) (a b : Nat) : Nat → Option ab_C := fun i => if a ≤ i ∧ i < b then bc_W i else H i
section
variable {K : ab_Kt} {H : Nat → Option ab_C} {a b c n s e i : Nat}
theorem bc_ex_in (h : a ≤ i ∧ i < b) : bc_ex H a b i = bc_W i := if_pos h
theorem bc_ex_ne (h : ¬ (a ≤ i ∧ i < b)) : bc_ex H a b i = H i := if_neg h
theorem bb_mkS_s : bb_mkS H s s = some (ab_ms (bb_dS 0) bb_l0 s 0) := by
  unfold bb_mkS
  rw [if_pos (by omega), Nat.sub_self]
theorem bb_mkS_ne (h : ¬ (s ≤ i ∧ i < s + 43)) : bb_mkS H s i = H i := if_neg h
theorem bb_mkS_in (h : s ≤ i ∧ i < s + 43) : bb_mkS H s i = some (ab_ms (bb_dS (i - s)) bb_l0 s (i - s)) := if_pos h
theorem bc_W19 (h : 19 ≤ i ∧ i < 62) : bc_W i = some (ab_ms (bb_dS (i - 19)) bb_l0 19 (i - 19)) := by
  unfold bc_W bc_D0 ab_mr
  rw [if_neg (by omega), if_neg (by omega), if_neg (by omega), if_pos h.2, if_neg (by omega), if_pos h]
  rfl
theorem bc_W64 (h : 64 ≤ i ∧ i < 494) : bc_W i = some (ab_ms (bb_dS ((i - 64) % 43)) bb_l0 (i - (i - 64) % 43) ((i - 64) % 43)) := by
  unfold bc_W bc_D0 ab_mr
  rw [if_neg (by omega), if_neg (by omega), if_neg (by omega), if_neg (by omega), if_neg (by omega), if_neg (by omega), if_pos h.2, if_neg (by omega), if_neg (by omega), if_pos h]
  rfl
theorem bc_Wsh (he : e < 10) (h : 64 + 43 * e ≤ i ∧ i < 64 + 43 * e + 43) : bc_W i = some (ab_ms (bb_dS (i - (64 + 43 * e))) bb_l0 (64 + 43 * e) (i - (64 + 43 * e))) := by
  rw [bc_W64 (by omega), show (i - 64) % 43 = i - (64 + 43 * e) by omega, show i - (i - (64 + 43 * e)) = 64 + 43 * e by omega]
theorem bb_y86 (hb : H 18 = some (.inr (4, [.null, .int 0, .int 0, .int 0, .int 0]))) : ab_cal K 86 [.ref 18] (H, 19, c, n) = some (.inl none, (bc_ex H 18 62, 62, c + 43, n + 412)) := by
  rw [ab_a86]
  refine (ab_e86_0).trans ?_
  refine (bb_gIni (congrFun ab_q86 1) (Nat.le_of_ble_eq_true rfl)).trans ?_
  refine (ab_e86_4).trans ?_
  refine (bb_gNew (N := 10) (congrFun ab_q86 5) rfl).trans ?_
  refine (ab_e86_8).trans ?_
  refine (bb_gCall (congrFun ab_q86 9) (Nat.le_of_ble_eq_true rfl) (bb_y88 bb_st_eq) ⟨by dsimp only; omega, by dsimp only; omega⟩).trans ?_
  refine (bb_gPut (congrFun ab_q86 12) ((bb_mkS_ne (by omega)).trans ((bb_st_ne (by omega)).trans hb)) (Nat.le_of_ble_eq_true rfl) rfl).trans ?_
  rw [ab_e86_15]
  refine bb_tup ?_ (by omega) (by omega) (by omega)
  funext i
  by_cases h18 : i = 18
  · subst h18
    rw [bb_st_eq]
    rfl
  rw [bb_st_ne h18]
  by_cases h : 18 ≤ i ∧ i < 62
  · rw [bc_ex_in h, bb_mkS_in (by omega), bc_W19 (by omega)]
  · rw [bc_ex_ne h, bb_mkS_ne (by omega), bb_st_ne (by omega)]
/-- the history with e shops -/
def bb_pH (H : Nat → Option ab_C) (e : Nat) : Nat → Option ab_C := fun i => if i = 62 then bc_W 62 else if i = 63 then some (.inl (8, 9, .inr (.inr (.inr (.inr (fun j => if j < e then some (64 + 43 * j) else none)))))) else if 64 ≤ i ∧ i < 64 + 43 * e then bc_W i else H i
theorem bb_pH_62 : bb_pH H e 62 = some (.inr (7, [.ref 63, .int 0, .int 0])) := rfl
theorem bb_pH_63 : bb_pH H e 63 = some (.inl (8, 9, .inr (.inr (.inr (.inr (fun j => if j < e then some (64 + 43 * j) else none)))))) := rfl
theorem bb_pH_ne (h0 : i ≠ 62) (h1 : i ≠ 63) : bb_pH H e i = if 64 ≤ i ∧ i < 64 + 43 * e then bc_W i else H i := (if_neg h0).trans (if_neg h1)
theorem bb_pH_e (he : e < 9) {C : ab_C} : bb_st (bb_mkS (bb_st (bb_pH H e) (64 + 43 * e) C) (64 + 43 * e)) 63 (.inl (8, 9, .inr (.inr (.inr (.inr (fun j => if j = ((e : Nat) : Int).toNat then some (64 + 43 * e) else (fun j => if j < e then some (64 + 43 * j) else none) j)))))) = bb_pH H (e + 1) := by
  funext i
  by_cases h1 : i = 63
  · subst h1
    rw [bb_st_eq, bb_pH_63]
    refine congrArg (fun (f : Nat → Option Nat) => (some (Sum.inl (8, 9, Sum.inr (Sum.inr (Sum.inr (Sum.inr f))))) : Option ab_C)) ?_
    funext j
    by_cases hj : j = e
    · rw [if_pos (by omega), if_pos (by omega), hj]
    · rw [if_neg (by omega)]
      dsimp only
      by_cases hj2 : j < e
      · rw [if_pos hj2, if_pos (by omega)]
      · rw [if_neg hj2, if_neg (by omega)]
  rw [bb_st_ne h1]
  by_cases hin : 64 + 43 * e ≤ i ∧ i < 64 + 43 * e + 43
  · rw [bb_mkS_in hin, bb_pH_ne (by omega) h1, if_pos (by omega), bc_Wsh (by omega) hin]
  rw [bb_mkS_ne hin, bb_st_ne (by omega)]
  by_cases h0 : i = 62
  · rw [h0]; rfl
  rw [bb_pH_ne h0 h1, bb_pH_ne h0 h1]
  by_cases h3 : 64 ≤ i ∧ i < 64 + 43 * e
  · rw [if_pos h3, if_pos (by omega)]
  · rw [if_neg h3, if_neg (by omega)]
theorem bb_l87 {c n : Nat} (e : Nat) (he : e ≤ 9) : ab_ev K 87 15 [some (.ref 62), some (.int (ab_I (e : Int)))] [] (bb_pH H e, 64 + 43 * e, c + 43 * e, n + 412 * e) = some (.inl none, (bc_ex H 62 451, 451, c + 387, n + 3708)) := by
  by_cases h6 : e < 9
  · skip
    refine (ab_e87_15).trans ?_
    refine (ab_e87_16).trans ?_
    refine (ab_e87_18 (ab_rgI (by omega) (by omega)) (ab_rgI (by omega) (by omega))).trans ?_
    refine (ab_br_f (by omega)).trans ?_
    refine (ab_e87_21).trans ?_
    refine (bb_gGet (congrFun ab_q87 22) bb_pH_62 rfl).trans ?_
    refine (ab_e87_25).trans ?_
    refine (bb_gNew (N := 10) (congrFun ab_q87 26) rfl).trans ?_
    refine (ab_e87_29).trans ?_
    refine (bb_gCall (congrFun ab_q87 30) (Nat.le_of_ble_eq_true rfl) (bb_y88 bb_st_eq) ⟨by dsimp only; omega, by dsimp only; omega⟩).trans ?_
    refine (bb_gAast (congrFun ab_q87 33) ((bb_mkS_ne (by omega)).trans ((bb_st_ne (by omega)).trans bb_pH_63)) bb_mkS_s (by omega) (by omega) (by decide)).trans ?_
    refine (ab_e87_34 (by with_unfolding_all rfl)).trans ?_
    refine (ab_e87_37).trans ?_
    rw [show ((e : Int) + 1) = ((e + 1 : Nat) : Int) by omega]
    exact bb_ch (bb_l87 (c := c) (n := n) (e + 1) (by omega)) (bb_pH_e h6) (by omega) (by omega) (by omega)
  · obtain rfl : e = 9 := by omega
    refine (ab_e87_15).trans ?_
    refine (ab_e87_16).trans ?_
    refine (ab_e87_18 (ab_rgI (by omega) (by omega)) (ab_rgI (by omega) (by omega))).trans ?_
    refine (ab_br_t (by omega)).trans ?_
    rw [ab_e87_40]
    refine bb_tup ?_ (by omega) (by omega) (by omega)
    funext i
    by_cases h : 62 ≤ i ∧ i < 451
    · rw [bc_ex_in h]
      by_cases h0 : i = 62
      · rw [h0]; rfl
      by_cases h1 : i = 63
      · rw [h1]; rfl
      rw [bb_pH_ne h0 h1, if_pos (by omega)]
    · rw [bc_ex_ne h, bb_pH_ne (by omega) (by omega), if_neg (by omega)]
termination_by 9 - e
theorem bb_y87 (hb : H 62 = some (.inr (7, [.null, .int 0, .int 0]))) : ab_cal K 87 [.ref 62] (H, 63, c, n) = some (.inl none, (bc_ex H 62 451, 451, c + 388, n + 3717)) := by
  rw [ab_a87]
  refine (ab_e87_0).trans ?_
  refine (bb_gIni (congrFun ab_q87 1) (Nat.le_of_ble_eq_true rfl)).trans ?_
  refine (ab_e87_4).trans ?_
  refine (ab_e87_5).trans ?_
  refine (bb_gR (n := 9) (N := 9) (congrFun ab_q87 7) (by decide) (by decide) rfl).trans ?_
  refine (bb_gPut (congrFun ab_q87 10) ((bb_st_ne (by omega)).trans hb) (Nat.le_of_ble_eq_true rfl) rfl).trans ?_
  refine (ab_e87_13).trans ?_
  refine (ab_e87_14 (by with_unfolding_all rfl)).trans ?_
  have e1 := bb_l87 (K := K) (H := H) (c := c + 1) (n := n + 9) 0 (by omega)
  rw [show ((0 : Nat) : Int) = 0 from rfl] at e1
  refine (bb_ch e1 ?_ (by omega) (by omega) (by omega)).trans (bb_tup rfl rfl (by omega) (by omega))
  funext i
  by_cases h0 : i = 62
  · subst h0
    rw [bb_st_eq]; rfl
  rw [bb_st_ne h0]
  by_cases h1 : i = 63
  · subst h1
    rw [bb_st_eq, bb_pH_63]
    refine congrArg (fun (f : Nat → Option Nat) => (some (Sum.inl (8, 9, Sum.inr (Sum.inr (Sum.inr (Sum.inr f))))) : Option ab_C)) ?_
    funext j
    rw [if_neg (by omega)]
  rw [bb_st_ne h1, bb_pH_ne h0 h1, if_neg (by omega)]
theorem bb_y89 (hb : H 494 = some (.inr (6, [.null, .int 0, .int 0, .int 0, .int 0, .null, .int 0, .int 0]))) : ab_cal K 89 [.ref 494] (H, 495, c, n) = some (.inl none, (bc_ex H 494 497, 497, c + 2, n + 63)) := by
  rw [ab_a89]
  refine (ab_e89_0).trans ?_
  refine (bb_gIni (congrFun ab_q89 1) (Nat.le_of_ble_eq_true rfl)).trans ?_
  refine (ab_e89_4).trans ?_
  refine (ab_e89_5).trans ?_
  refine (bb_gA3 (n := 60) (N := 60) (congrFun ab_q89 7) (by decide) (by decide) rfl).trans ?_
  refine (bb_gPut (congrFun ab_q89 9) ((bb_st_ne (by omega)).trans hb) (Nat.le_of_ble_eq_true rfl) rfl).trans ?_
  refine (ab_e89_12).trans ?_
  refine (ab_e89_13).trans ?_
  refine (bb_gA0 (n := 3) (N := 3) (congrFun ab_q89 14) (by decide) (by decide) rfl).trans ?_
  refine (bb_gPut (congrFun ab_q89 16) ((bb_st_ne (by omega)).trans bb_st_eq) (Nat.le_of_ble_eq_true rfl) rfl).trans ?_
  rw [ab_e89_19]
  refine bb_tup ?_ (by omega) (by omega) (by omega)
  funext i
  by_cases h494 : i = 494
  · subst h494
    rfl
  by_cases h495 : i = 495
  · subst h495
    rfl
  by_cases h496 : i = 496
  · subst h496
    rfl
  rw [bc_ex_ne (by omega)]
  unfold bb_st
  repeat' split
  all_goals first | rfl | (exfalso; omega)
theorem bb_y175 (hb : H 497 = some (.inr (1, [.null, .int 0, .int 0, .int 0]))) : ab_cal K 175 [.ref 497, .int (ab_I 16)] (H, 498, c, n) = some (.inl none, (bc_ex H 497 499, 499, c + 1, n + 16)) := by
  rw [ab_a175]
  refine (ab_e175_0).trans ?_
  refine (bb_gIni (congrFun ab_q175 1) (Nat.le_of_ble_eq_true rfl)).trans ?_
  refine (bb_gGst (congrFun ab_q175 4) (by omega)).trans ?_
  refine (ab_e175_7 (a := 1) (ab_rgI (by decide) (by decide))).trans ?_
  refine (ab_br_f (by decide)).trans ?_
  refine (ab_e175_10).trans ?_
  refine (ab_e175_11).trans ?_
  refine (bb_gA4 (n := 16) (N := 16) (congrFun ab_q175 12) (by decide) (by decide) rfl).trans ?_
  refine (bb_gPut (congrFun ab_q175 14) ((bb_st_ne (by omega)).trans hb) (Nat.le_of_ble_eq_true rfl) rfl).trans ?_
  refine (ab_e175_17).trans ?_
  refine (ab_e175_18).trans ?_
  refine (bb_gPut (congrFun ab_q175 19) bb_st_eq (Nat.le_of_ble_eq_true rfl) rfl).trans ?_
  refine (ab_e175_22).trans ?_
  rw [ab_e175_38]
  refine bb_tup ?_ (by omega) (by omega) (by omega)
  funext i
  by_cases h497 : i = 497
  · subst h497
    rfl
  by_cases h498 : i = 498
  · subst h498
    rfl
  rw [bc_ex_ne (by omega)]
  unfold bb_st
  repeat' split
  all_goals first | rfl | (exfalso; omega)
theorem bb_y90 (hb : H 497 = some (.inr (1, [.null, .int 0, .int 0, .int 0]))) : ab_cal K 90 [.ref 497] (H, 498, c, n) = some (.inl none, (bc_ex H 497 499, 499, c + 1, n + 16)) := by
  rw [ab_a90]
  refine (ab_e90_0).trans ?_
  refine (ab_e90_1).trans ?_
  refine (bb_gCall1 (congrFun ab_q90 3) (Nat.le_of_ble_eq_true rfl) (bb_y175 hb) ⟨by dsimp only; omega, by dsimp only; omega⟩).trans ?_
  rw [ab_e90_6]
end
