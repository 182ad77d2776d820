/-! ===== the constructors of the class and of the model; the start of the law ===== -/
section
variable {K : ab_Kt} {H : Nat → Option ab_C} {c n i : Nat}
theorem bc_W18 : bc_W 18 = some (.inr (4, [.ref 19, .int (ab_I 0), .int (ab_I 0), .int (ab_I 0), .int (ab_I 0)])) := rfl
theorem bc_W_lo (h : i < 17) : bc_W i = none := if_pos h
theorem bc_W_hi (h : 510 ≤ i) : bc_W i = none := by
  unfold bc_W
  rw [bb_mr_hi h, if_neg (by show i ≠ 498; omega)]
  rfl
theorem bb_y1 (hb : H 17 = some (.inr (10, [.null, .null, .null, .null, .int 0, .null, .int 0, .null, .null]))) : ab_cal K 1 [.ref 17] (H, 18, c, n) = some (.inl none, (bc_ex H 17 500, 500, c + 482, n + 4646)) := by
  rw [bb_a1]
  refine (ab_e1_0).trans ?_
  refine (bb_gIni (congrFun ab_q1 1) (Nat.le_of_ble_eq_true rfl)).trans ?_
  refine (ab_e1_4).trans ?_
  refine (bb_gNew (N := 5) (congrFun ab_q1 5) rfl).trans ?_
  refine (ab_e1_8).trans ?_
  refine (bb_gCall (congrFun ab_q1 9) (Nat.le_of_ble_eq_true rfl) (bb_y86 bb_st_eq) ⟨by dsimp only; omega, by dsimp only; omega⟩).trans ?_
  refine (bb_gPut (congrFun ab_q1 12) ((bc_ex_ne (by omega)).trans ((bb_st_ne (by omega)).trans hb)) (Nat.le_of_ble_eq_true rfl) rfl).trans ?_
  refine (ab_e1_15).trans ?_
  refine (ab_e1_16).trans ?_
  refine (bb_gGet (congrFun ab_q1 17) bb_st_eq rfl).trans ?_
  refine (bb_gGet (congrFun ab_q1 20) ((bb_st_ne (by omega)).trans ((bc_ex_in (by omega)).trans bc_W18)) rfl).trans ?_
  refine (bb_gPut (congrFun ab_q1 23) bb_st_eq (Nat.le_of_ble_eq_true rfl) rfl).trans ?_
  refine (ab_e1_26).trans ?_
  refine (bb_gNew (N := 3) (congrFun ab_q1 27) rfl).trans ?_
  refine (ab_e1_30).trans ?_
  refine (bb_gCall (congrFun ab_q1 31) (Nat.le_of_ble_eq_true rfl) (bb_y87 bb_st_eq) ⟨by dsimp only; omega, by dsimp only; omega⟩).trans ?_
  refine (bb_gPut (congrFun ab_q1 34) ((bc_ex_ne (by omega)).trans ((bb_st_ne (by omega)).trans bb_st_eq)) (Nat.le_of_ble_eq_true rfl) rfl).trans ?_
  refine (ab_e1_37).trans ?_
  refine (bb_gNew (N := 10) (congrFun ab_q1 38) rfl).trans ?_
  refine (ab_e1_41).trans ?_
  refine (bb_gCall (congrFun ab_q1 42) (Nat.le_of_ble_eq_true rfl) (bb_y88 bb_st_eq) ⟨by dsimp only; omega, by dsimp only; omega⟩).trans ?_
  refine (bb_gPut (congrFun ab_q1 45) ((bb_mkS_ne (by omega)).trans ((bb_st_ne (by omega)).trans bb_st_eq)) (Nat.le_of_ble_eq_true rfl) rfl).trans ?_
  refine (ab_e1_48).trans ?_
  refine (bb_gNew (N := 8) (congrFun ab_q1 49) rfl).trans ?_
  refine (ab_e1_52).trans ?_
  refine (bb_gCall (congrFun ab_q1 53) (Nat.le_of_ble_eq_true rfl) (bb_y89 bb_st_eq) ⟨by dsimp only; omega, by dsimp only; omega⟩).trans ?_
  refine (bb_gPut (congrFun ab_q1 56) ((bc_ex_ne (by omega)).trans ((bb_st_ne (by omega)).trans bb_st_eq)) (Nat.le_of_ble_eq_true rfl) rfl).trans ?_
  refine (ab_e1_59).trans ?_
  refine (ab_e1_60).trans ?_
  refine (bb_gPut (congrFun ab_q1 61) bb_st_eq (Nat.le_of_ble_eq_true rfl) rfl).trans ?_
  refine (ab_e1_64).trans ?_
  refine (bb_gNew (N := 4) (congrFun ab_q1 65) rfl).trans ?_
  refine (ab_e1_68).trans ?_
  refine (bb_gCall (congrFun ab_q1 69) (Nat.le_of_ble_eq_true rfl) (bb_y90 bb_st_eq) ⟨by dsimp only; omega, by dsimp only; omega⟩).trans ?_
  refine (bb_gPut (congrFun ab_q1 72) ((bc_ex_ne (by omega)).trans ((bb_st_ne (by omega)).trans bb_st_eq)) (Nat.le_of_ble_eq_true rfl) rfl).trans ?_
  refine (ab_e1_75).trans ?_
  refine (ab_e1_76).trans ?_
  refine (bb_gA0 (n := 6) (N := 6) (congrFun ab_q1 78) (by decide) (by decide) rfl).trans ?_
  refine (bb_gPut (congrFun ab_q1 80) ((bb_st_ne (by omega)).trans bb_st_eq) (Nat.le_of_ble_eq_true rfl) rfl).trans ?_
  rw [ab_e1_83]
  refine bb_tup ?_ (by omega) (by omega) (by omega)
  funext i
  by_cases h17 : i = 17
  · subst h17
    rfl
  by_cases h499 : i = 499
  · subst h499
    rfl
  by_cases h : 17 ≤ i ∧ i < 500
  · rw [bc_ex_in h]
    dsimp only [bb_st, bc_ex, bb_mkS]
    simp only [if_neg h17, if_neg h499]
    repeat' split
    all_goals try first | rfl | (exfalso; omega) | exact (bc_Wsh (e := 9) (by omega) (by omega)).symm
  · rw [bc_ex_ne h]
    dsimp only [bb_st, bc_ex, bb_mkS]
    simp only [if_neg h17, if_neg h499]
    repeat' split
    all_goals try first | rfl | (exfalso; omega)
theorem bb_y2 (hb : H 500 = some (.inr (11, [.null, .null, .null, .null, .int 0, .int 0, .int 0, .int 0, .int 0, .int 0, .int 0, .null, .int 0, .int 0, .null, .int 0, .int 0, .null, .int 0]))) : ab_cal K 2 [.ref 500] (H, 501, c, n) = some (.inl none, (bc_ex H 500 508, 508, c + 7, n + 3902)) := by
  rw [ab_a2]
  refine (ab_e2_0).trans ?_
  refine (bb_gIni (congrFun ab_q2 1) (Nat.le_of_ble_eq_true rfl)).trans ?_
  refine (ab_e2_4).trans ?_
  refine (ab_e2_5).trans ?_
  refine (bb_gA0 (n := 322) (N := 322) (congrFun ab_q2 8) (by decide) (by decide) rfl).trans ?_
  refine (bb_gPut (congrFun ab_q2 10) ((bb_st_ne (by omega)).trans hb) (Nat.le_of_ble_eq_true rfl) rfl).trans ?_
  refine (ab_e2_13).trans ?_
  refine (ab_e2_14).trans ?_
  refine (bb_gA0 (n := 2576) (N := 2576) (congrFun ab_q2 17) (by decide) (by decide) rfl).trans ?_
  refine (bb_gPut (congrFun ab_q2 19) ((bb_st_ne (by omega)).trans bb_st_eq) (Nat.le_of_ble_eq_true rfl) rfl).trans ?_
  refine (ab_e2_22).trans ?_
  refine (ab_e2_23).trans ?_
  refine (bb_gA0 (n := 322) (N := 322) (congrFun ab_q2 26) (by decide) (by decide) rfl).trans ?_
  refine (bb_gPut (congrFun ab_q2 28) ((bb_st_ne (by omega)).trans bb_st_eq) (Nat.le_of_ble_eq_true rfl) rfl).trans ?_
  refine (ab_e2_31).trans ?_
  refine (ab_e2_32).trans ?_
  refine (bb_gA0 (n := 322) (N := 322) (congrFun ab_q2 35) (by decide) (by decide) rfl).trans ?_
  refine (bb_gPut (congrFun ab_q2 37) ((bb_st_ne (by omega)).trans bb_st_eq) (Nat.le_of_ble_eq_true rfl) rfl).trans ?_
  refine (ab_e2_40).trans ?_
  refine (ab_e2_41).trans ?_
  refine (bb_gA0 (n := 60) (N := 60) (congrFun ab_q2 43) (by decide) (by decide) rfl).trans ?_
  refine (bb_gPut (congrFun ab_q2 45) ((bb_st_ne (by omega)).trans bb_st_eq) (Nat.le_of_ble_eq_true rfl) rfl).trans ?_
  refine (ab_e2_48).trans ?_
  refine (ab_e2_49).trans ?_
  refine (bb_gPut (congrFun ab_q2 50) bb_st_eq (Nat.le_of_ble_eq_true rfl) rfl).trans ?_
  refine (ab_e2_53).trans ?_
  refine (ab_e2_54).trans ?_
  refine (bb_gA3 (n := 140) (N := 140) (congrFun ab_q2 57) (by decide) (by decide) rfl).trans ?_
  refine (bb_gPut (congrFun ab_q2 59) ((bb_st_ne (by omega)).trans bb_st_eq) (Nat.le_of_ble_eq_true rfl) rfl).trans ?_
  refine (ab_e2_62).trans ?_
  refine (ab_e2_63).trans ?_
  refine (bb_gA0 (n := 160) (N := 160) (congrFun ab_q2 66) (by decide) (by decide) rfl).trans ?_
  refine (bb_gPut (congrFun ab_q2 68) ((bb_st_ne (by omega)).trans bb_st_eq) (Nat.le_of_ble_eq_true rfl) rfl).trans ?_
  refine (ab_e2_71).trans ?_
  refine (bb_gGet (congrFun ab_q2 72) bb_st_eq rfl).trans ?_
  refine (ab_e2_75).trans ?_
  refine (ab_e2_76).trans ?_
  refine (bb_gAst0 (congrFun ab_q2 78) ((bb_st_ne (by omega)).trans ((bb_st_ne (by omega)).trans ((bb_st_ne (by omega)).trans ((bb_st_ne (by omega)).trans ((bb_st_ne (by omega)).trans ((bb_st_ne (by omega)).trans ((bb_st_ne (by omega)).trans ((bb_st_ne (by omega)).trans ((bb_st_ne (by omega)).trans ((bb_st_ne (by omega)).trans ((bb_st_ne (by omega)).trans ((bb_st_ne (by omega)).trans ((bb_st_ne (by omega)).trans ((bb_st_ne (by omega)).trans bb_st_eq)))))))))))))) (by decide) (by decide) (by decide)).trans ?_
  refine (ab_e2_79).trans ?_
  refine (bb_gGet (congrFun ab_q2 80) ((bb_st_ne (by omega)).trans bb_st_eq) rfl).trans ?_
  refine (ab_e2_83).trans ?_
  refine (ab_e2_84).trans ?_
  refine (bb_gAst0 (congrFun ab_q2 86) bb_st_eq (by decide) (by decide) (by decide)).trans ?_
  rw [ab_e2_87]
  refine bb_tup ?_ (by omega) (by omega) (by omega)
  funext i
  by_cases h500 : i = 500
  · subst h500
    rfl
  by_cases h502 : i = 502
  · subst h502
    rfl
  by_cases h503 : i = 503
  · subst h503
    rfl
  by_cases h504 : i = 504
  · subst h504
    rfl
  by_cases h505 : i = 505
  · subst h505
    rfl
  by_cases h506 : i = 506
  · subst h506
    rfl
  by_cases h507 : i = 507
  · subst h507
    rfl
  by_cases h501 : i = 501
  · subst h501
    rw [bc_ex_in (by omega)]
    show some (Sum.inl (0, 322, Sum.inl _)) = some (Sum.inl (0, 322, Sum.inl (fun j : Nat => ab_I (if (j : Int) = 1 then 20 else if (j : Int) = 2 then 100 else 0))))
    refine congrArg (fun (f : Nat → Int32) => (some (Sum.inl (0, 322, Sum.inl f)) : Option ab_C)) ?_
    funext j
    by_cases j1 : j = 1
    · subst j1; rfl
    by_cases j2 : j = 2
    · subst j2; rfl
    show (if j = (2 : Int).toNat then ab_I 100 else if j = (1 : Int).toNat then ab_I 20 else (0 : Int32)) = ab_I (if (j : Int) = 1 then 20 else if (j : Int) = 2 then 100 else 0)
    rw [if_neg (show ¬ j = (2 : Int).toNat by omega), if_neg (show ¬ j = (1 : Int).toNat by omega), if_neg (show ¬ (j : Int) = 1 by omega), if_neg (show ¬ (j : Int) = 2 by omega)]
    rfl
  rw [bc_ex_ne (by omega)]
  unfold bb_st
  repeat' split
  all_goals first | rfl | (exfalso; omega)
/-- nothing but what is given -/
def bc_h0 : ab_H := (fun _ => none, 17, 0, 0)
theorem bb_y0 : ab_ev K 0 0 [some (.ref 0), none, none, none, none, none, none, none, none] [] bc_h0 = ab_ev K 0 28 [some (.ref 0), some (.ref 17), some (.ref 500), some (.ref 508), some (.ref 509), some (.int (ab_I 0)), none, none, none] [] (ab_mk bc_D0 bc_L0 bc_z0) := by
  unfold bc_h0
  refine (bb_gNew (N := 9) (congrFun (ab_q0 K) 0) rfl).trans ?_
  refine (ab_e0_3).trans ?_
  refine (bb_gCall (congrFun (ab_q0 K) 4) (Nat.le_of_ble_eq_true rfl) (bb_y1 bb_st_eq) ⟨by dsimp only; omega, by dsimp only; omega⟩).trans ?_
  refine (ab_e0_7 (by with_unfolding_all rfl)).trans ?_
  refine (bb_gNew (N := 19) (congrFun (ab_q0 K) 8) rfl).trans ?_
  refine (ab_e0_11).trans ?_
  refine (bb_gCall (congrFun (ab_q0 K) 12) (Nat.le_of_ble_eq_true rfl) (bb_y2 bb_st_eq) ⟨by dsimp only; omega, by dsimp only; omega⟩).trans ?_
  refine (ab_e0_15 (by with_unfolding_all rfl)).trans ?_
  refine (ab_e0_16).trans ?_
  refine (bb_gA2 (n := 1) (N := 1) (congrFun (ab_q0 K) 17) (by decide) (by decide) rfl).trans ?_
  refine (ab_e0_19 (by with_unfolding_all rfl)).trans ?_
  refine (ab_e0_20).trans ?_
  refine (bb_gA5 (n := 1) (N := 1) (congrFun (ab_q0 K) 21) (by decide) (by decide) rfl).trans ?_
  refine (ab_e0_23 (by with_unfolding_all rfl)).trans ?_
  refine (ab_e0_25).trans ?_
  refine (ab_e0_26 (by with_unfolding_all rfl)).trans ?_
  refine bb_ch rfl ?_ (by rfl) (by rfl) (by rfl)
  funext i
  by_cases h508 : i = 508
  · subst h508
    rfl
  by_cases h509 : i = 509
  · subst h509
    rfl
  show _ = bc_W i
  by_cases h : i < 17
  · rw [bc_W_lo h]
    dsimp only [bb_st, bc_ex]
    repeat' split
    all_goals first | rfl | (exfalso; omega)
  by_cases h2 : 510 ≤ i
  · rw [bc_W_hi h2]
    dsimp only [bb_st, bc_ex]
    repeat' split
    all_goals first | rfl | (exfalso; omega)
  · dsimp only [bb_st, bc_ex]
    repeat' split
    all_goals first | rfl | (exfalso; omega)
end
/-! ===== the books agree at the start ===== -/
theorem bc_g (k : Int) (h1 : k ≠ 1) (h2 : k ≠ 2) : bc_D0 501 k = 0 := by
  show (if k = 1 then (20 : Int) else if k = 2 then 100 else 0) = 0
  rw [if_neg h1, if_neg h2]
theorem bc_D19 {i : Nat} (h : 19 ≤ i ∧ i < 62) : bc_D0 i = bb_dS (i - 19) := by
  unfold bc_D0
  rw [if_neg (by omega), if_pos h]
theorem bc_dS0 {j : Nat} (h : j ≠ 0) (h2 : ¬ (3 ≤ j ∧ j < 39 ∧ (j - 3) % 6 = 0)) : bb_dS j = fun _ => 0 := by
  unfold bb_dS
  rw [if_neg h, if_neg h2]
theorem bc_dSb {j : Nat} (h2 : 3 ≤ j ∧ j < 39 ∧ (j - 3) % 6 = 0) : bb_dS j = fun k => if k = 6 then -1 else 0 := by
  unfold bb_dS
  rw [if_neg (by omega), if_pos h2]
theorem bc_WS : bb_WS (bb_cc 0) (bc_D0 501) := by
  have g3 := bc_g 3 (by decide) (by decide)
  have g0 := bc_g 0 (by decide) (by decide)
  have gp : ∀ p : Int, 0 ≤ p → p < 2 → bc_D0 501 (8 + 4 * p) = 0 := fun p a b => bc_g _ (by omega) (by omega)
  refine ⟨by omega, ⟨by decide, by decide⟩, ⟨by omega, by rw [g0]; decide⟩, ⟨by decide, by decide⟩, by decide, fun e e0 e1 => by omega, fun p p0 p1 => by rw [gp p p0 p1]; decide, fun p k p0 p1 k0 k1 => ?_, fun p k q j p0 p1 k0 k1 => ?_, ?_⟩
  · rw [gp p p0 p1] at k1
    omega
  · rw [gp p p0 p1] at k1
    omega
  · rw [g3, bc_g 8 (by decide) (by decide), bc_g 12 (by decide) (by decide)]
    rfl
theorem bc_KS : bb_KS bc_D0 bc_L0 19 (bc_D0 501) := by
  have g3 := bc_g 3 (by decide) (by decide)
  have d19 : bc_D0 19 = fun k => if k = 4 then 20 else if k = 5 then 100 else 0 := rfl
  refine ⟨⟨?_, ?_, ?_, ?_, ?_, ?_, ?_, ?_⟩, fun p p0 p1 => ⟨?_, fun k k0 k1 => ?_⟩, fun e e0 e1 s s0 s1 => ?_, fun e e0 e1 => by omega, fun e e0 e1 => ?_⟩
  · rw [g3]; rfl
  · rw [bc_g 0 (by decide) (by decide)]; rfl
  · rfl
  · rfl
  · rw [bc_g 4 (by decide) (by decide)]; rfl
  · rw [bc_g 5 (by decide) (by decide)]; rfl
  · rw [bc_g 6 (by decide) (by decide)]; rfl
  · rw [bc_g 7 (by decide) (by decide)]; rfl
  · rw [bc_g _ (by omega) (by omega)]
    unfold ab_pI
    rw [bc_D19 (by omega), bc_dS0 (by omega) (by omega)]
  · rw [bc_g _ (by omega) (by omega)]
    unfold ab_pI
    rw [bc_D19 (by omega), bc_dS0 (by omega) (by omega)]
  · have hz : ∀ t, 1 ≤ t → t ≤ 5 → bc_D0 (ab_bI 19 e + t) = fun _ => 0 := fun t t0 t1 => by
      unfold ab_bI
      rw [bc_D19 (by omega), bc_dS0 (by omega) (by omega)]
    rw [hz 1 (by decide) (by decide), hz 2 (by decide) (by decide), hz 3 (by decide) (by decide), hz 4 (by decide) (by decide)]
    exact ⟨⟨Int.le_refl 0, (by decide : (0 : Int) ≤ 99)⟩, ⟨Int.le_refl 0, (by decide : (0 : Int) ≤ 114)⟩, ⟨Int.le_refl 0, (by decide : (0 : Int) ≤ 3)⟩, .inl rfl⟩
  · have hz : bc_D0 (ab_bI 19 e) = fun k => if k = 6 then -1 else 0 := by
      unfold ab_bI
      rw [bc_D19 (by omega), bc_dSb (by omega)]
    unfold bb_NB
    rw [hz]
    exact ⟨⟨rfl, rfl, rfl, rfl, rfl, rfl⟩, rfl, rfl, rfl⟩
theorem bc_INV : bb_INV 0 bc_D0 bc_L0 bc_z0 := by
  refine ⟨⟨by decide, by decide⟩, ⟨bc_WS, ⟨bc_KS, ⟨by decide, by decide⟩, rfl, ⟨by decide, by decide⟩, fun j j0 j1 => ?_⟩, fun j j0 j1 => ?_⟩, ⟨.inl rfl, rfl, fun h => ?_⟩, ⟨⟨rfl, rfl, rfl⟩, rfl, by decide, by decide⟩, rfl, ⟨⟨by decide, by decide⟩, rfl, fun k k0 k1 => ?_, rfl⟩, ⟨⟨⟨.inl rfl, by decide⟩, rfl, ⟨by decide, by decide⟩, fun j j0 j1 => ⟨Int.le_refl 0, (by decide : (0 : Int) < 128)⟩⟩, rfl, by decide, fun j j0 j1 => ?_⟩, ⟨by decide, by decide⟩⟩
  · exact absurd j1 (by show ¬ j < 0; omega)
  · exact absurd j1 (by show ¬ j < 0; omega)
  · exact absurd h (by decide)
  · exact absurd k1 (by show ¬ k < 0; omega)
  · exact absurd j1 (by show ¬ j < 0; omega)

