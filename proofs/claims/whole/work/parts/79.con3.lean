/-! ===== a shop ===== -/
def bb_dS (j : Nat) : Int → Int := if j = 0 then (fun k => if k = 4 then 20 else if k = 5 then 100 else 0) else if 3 ≤ j ∧ j < 39 ∧ (j - 3) % 6 = 0 then (fun k => if k = 6 then -1 else 0) else fun _ => 0
def bb_mkS (H : Nat → Option ab_C) (s : Nat) : Nat → Option ab_C := fun i => if s ≤ i ∧ i < s + 43 then some (ab_ms (bb_dS (i - s)) bb_l0 s (i - s)) else H i
/-- a shop with e books and p presses -/
def bb_pS (H : Nat → Option ab_C) (s e p : Nat) : Nat → Option ab_C := fun i => if i = s then some (ab_ms (bb_dS 0) bb_l0 s 0) else if i = s + 1 then some (.inl (6, 6, .inr (.inr (.inr (.inr (fun j => if j < e then some (s + 3 + 6 * j) else none)))))) else if i = s + 2 then some (.inl (7, 2, .inr (.inr (.inr (.inr (fun j => if j < p then some (s + 39 + 2 * j) else none)))))) else if (s + 3 ≤ i ∧ i < s + 3 + 6 * e) ∨ (s + 39 ≤ i ∧ i < s + 39 + 2 * p) then some (ab_ms (bb_dS (i - s)) bb_l0 s (i - s)) else H i
section
variable {K : ab_Kt} {H : Nat → Option ab_C} {s e p b : Nat}
theorem bb_ch {M pc q c n q' c' n' : Nat} {ls : ab_Ls} {st : List Value} {H' : Nat → Option ab_C} {r : Option (ab_O × ab_H)} (h : ab_ev K M pc ls st (H', q', c', n') = r) (h1 : H = H') (h2 : q = q') (h3 : c = c') (h4 : n = n') : ab_ev K M pc ls st (H, q, c, n) = r := by
  subst h1 h2 h3 h4
  exact h
theorem bb_pS_s : bb_pS H s e p s = some (ab_ms (bb_dS 0) bb_l0 s 0) := if_pos rfl
theorem bb_pS_1 : bb_pS H s e p (s + 1) = some (.inl (6, 6, .inr (.inr (.inr (.inr (fun j => if j < e then some (s + 3 + 6 * j) else none)))))) := (if_neg (by omega)).trans (if_pos rfl)
theorem bb_pS_2 : bb_pS H s e p (s + 2) = some (.inl (7, 2, .inr (.inr (.inr (.inr (fun j => if j < p then some (s + 39 + 2 * j) else none)))))) := (if_neg (by omega)).trans ((if_neg (by omega)).trans (if_pos rfl))
theorem bb_pS_ne {i : Nat} (h0 : i ≠ s) (h1 : i ≠ s + 1) (h2 : i ≠ s + 2) : bb_pS H s e p i = if (s + 3 ≤ i ∧ i < s + 3 + 6 * e) ∨ (s + 39 ≤ i ∧ i < s + 39 + 2 * p) then some (ab_ms (bb_dS (i - s)) bb_l0 s (i - s)) else H i := (if_neg h0).trans ((if_neg h1).trans (if_neg h2))
theorem bb_mkB_b : bb_mkB H b b = some (ab_mb (bb_dB 0) bb_l0 b 0) := by
  unfold bb_mkB
  rw [if_pos (by omega), Nat.sub_self]
theorem bb_mkB_ne {i : Nat} (h : ¬ (b ≤ i ∧ i < b + 6)) : bb_mkB H b i = H i := if_neg h
theorem bb_mkP_b : bb_mkP H b b = some (ab_mp (fun _ => 0) b 0) := by
  unfold bb_mkP
  rw [if_pos (by omega), Nat.sub_self]
theorem bb_mkP_ne {i : Nat} (h : ¬ (b ≤ i ∧ i < b + 2)) : bb_mkP H b i = H i := if_neg h
theorem bb_ms_b {t : Nat} (he : e < 6) (ht : t < 6) : ab_ms (bb_dS (6 * e + t + 3)) bb_l0 s (6 * e + t + 3) = ab_mb (bb_dB t) bb_l0 (s + 3 + 6 * e) t := by
  have hd : bb_dS (6 * e + t + 3) = bb_dB t := by
    unfold bb_dS bb_dB
    rw [if_neg (by omega)]
    by_cases h : t = 0
    · rw [if_pos (by omega), if_pos h]
    · rw [if_neg (by omega), if_neg h]
  rw [hd]
  show (if 6 * e + t < 36 then ab_mb (bb_dB t) bb_l0 (s + 3 + (6 * e + t) - (6 * e + t) % 6) ((6 * e + t) % 6) else ab_mp (bb_dB t) (s + 3 + (6 * e + t) - (6 * e + t) % 2) ((6 * e + t) % 2)) = _
  rw [if_pos (by omega), show (6 * e + t) % 6 = t by omega, show s + 3 + (6 * e + t) - t = s + 3 + 6 * e by omega]
theorem bb_ms_p {t : Nat} (hp : p < 2) (ht : t < 2) : ab_ms (bb_dS (36 + 2 * p + t + 3)) bb_l0 s (36 + 2 * p + t + 3) = ab_mp (fun _ => 0) (s + 39 + 2 * p) t := by
  have hd : bb_dS (36 + 2 * p + t + 3) = fun _ => 0 := by
    unfold bb_dS
    rw [if_neg (by omega), if_neg (by omega)]
  rw [hd]
  show (if 36 + 2 * p + t < 36 then ab_mb (fun _ => 0) bb_l0 (s + 3 + (36 + 2 * p + t) - (36 + 2 * p + t) % 6) ((36 + 2 * p + t) % 6) else ab_mp (fun _ => 0) (s + 3 + (36 + 2 * p + t) - (36 + 2 * p + t) % 2) ((36 + 2 * p + t) % 2)) = _
  rw [if_neg (by omega), show (36 + 2 * p + t) % 2 = t by omega, show s + 3 + (36 + 2 * p + t) - t = s + 39 + 2 * p by omega]
theorem bb_pS_e (he : e < 6) {C : ab_C} : bb_st (bb_mkB (bb_st (bb_pS H s e 0) (s + 3 + 6 * e) C) (s + 3 + 6 * e)) (s + 1) (.inl (6, 6, .inr (.inr (.inr (.inr (fun j => if j = ((e : Nat) : Int).toNat then some (s + 3 + 6 * e) else (fun j => if j < e then some (s + 3 + 6 * j) else none) j)))))) = bb_pS H s (e + 1) 0 := by
  funext i
  by_cases h1 : i = s + 1
  · subst h1
    rw [bb_st_eq, bb_pS_1]
    refine congrArg (fun (f : Nat → Option Nat) => (some (Sum.inl (6, 6, Sum.inr (Sum.inr (Sum.inr (Sum.inr f))))) : Option ab_C)) ?_
    funext j
    by_cases hj : j = e
    · rw [if_pos (by omega), if_pos (by omega), hj]
    · rw [if_neg (by omega)]
      dsimp only
      by_cases hj2 : j < e
      · rw [if_pos hj2, if_pos (by omega)]
      · rw [if_neg hj2, if_neg (by omega)]
  rw [bb_st_ne h1]
  by_cases hin : s + 3 + 6 * e ≤ i ∧ i < s + 3 + 6 * e + 6
  · rw [bb_pS_ne (by omega) h1 (by omega), if_pos (by omega), show bb_mkB _ (s + 3 + 6 * e) i = some (ab_mb (bb_dB (i - (s + 3 + 6 * e))) bb_l0 (s + 3 + 6 * e) (i - (s + 3 + 6 * e))) from if_pos hin]
    rw [← bb_ms_b he (by omega), show 6 * e + (i - (s + 3 + 6 * e)) + 3 = i - s by omega]
  rw [bb_mkB_ne hin, bb_st_ne (by omega)]
  by_cases h0 : i = s
  · rw [h0, bb_pS_s, bb_pS_s]
  by_cases h2 : i = s + 2
  · rw [h2, bb_pS_2, bb_pS_2]
  rw [bb_pS_ne h0 h1 h2, bb_pS_ne h0 h1 h2]
  by_cases h3 : s + 3 ≤ i ∧ i < s + 3 + 6 * e
  · rw [if_pos (.inl h3), if_pos (by omega)]
  · rw [if_neg (by omega), if_neg (by omega)]
theorem bb_pS_p (hp : p < 2) {C : ab_C} : bb_st (bb_mkP (bb_st (bb_pS H s 6 p) (s + 39 + 2 * p) C) (s + 39 + 2 * p)) (s + 2) (.inl (7, 2, .inr (.inr (.inr (.inr (fun j => if j = ((p : Nat) : Int).toNat then some (s + 39 + 2 * p) else (fun j => if j < p then some (s + 39 + 2 * j) else none) j)))))) = bb_pS H s 6 (p + 1) := by
  funext i
  by_cases h2 : i = s + 2
  · subst h2
    rw [bb_st_eq, bb_pS_2]
    refine congrArg (fun (f : Nat → Option Nat) => (some (Sum.inl (7, 2, Sum.inr (Sum.inr (Sum.inr (Sum.inr f))))) : Option ab_C)) ?_
    funext j
    by_cases hj : j = p
    · rw [if_pos (by omega), if_pos (by omega), hj]
    · rw [if_neg (by omega)]
      dsimp only
      by_cases hj2 : j < p
      · rw [if_pos hj2, if_pos (by omega)]
      · rw [if_neg hj2, if_neg (by omega)]
  rw [bb_st_ne h2]
  by_cases hin : s + 39 + 2 * p ≤ i ∧ i < s + 39 + 2 * p + 2
  · rw [bb_pS_ne (by omega) (by omega) h2, if_pos (by omega), show bb_mkP _ (s + 39 + 2 * p) i = some (ab_mp (fun _ => 0) (s + 39 + 2 * p) (i - (s + 39 + 2 * p))) from if_pos hin]
    rw [← bb_ms_p hp (by omega), show 36 + 2 * p + (i - (s + 39 + 2 * p)) + 3 = i - s by omega]
  rw [bb_mkP_ne hin, bb_st_ne (by omega)]
  by_cases h0 : i = s
  · rw [h0, bb_pS_s, bb_pS_s]
  by_cases h1 : i = s + 1
  · rw [h1, bb_pS_1, bb_pS_1]
  rw [bb_pS_ne h0 h1 h2, bb_pS_ne h0 h1 h2]
  by_cases h3 : (s + 3 ≤ i ∧ i < s + 3 + 6 * 6) ∨ (s + 39 ≤ i ∧ i < s + 39 + 2 * p)
  · rw [if_pos h3, if_pos (by omega)]
  · rw [if_neg h3, if_neg (by omega)]
theorem bb_pS_S : bb_pS H s 6 2 = bb_mkS H s := by
  funext i
  unfold bb_mkS
  by_cases h0 : i = s
  · rw [h0, bb_pS_s, if_pos (by omega), Nat.sub_self]
  by_cases h1 : i = s + 1
  · rw [h1, bb_pS_1, if_pos (by omega), Nat.add_sub_cancel_left]
    rfl
  by_cases h2 : i = s + 2
  · rw [h2, bb_pS_2, if_pos (by omega), Nat.add_sub_cancel_left]
    rfl
  rw [bb_pS_ne h0 h1 h2]
  by_cases h3 : s ≤ i ∧ i < s + 43
  · rw [if_pos h3, if_pos (by omega)]
  · rw [if_neg h3, if_neg (by omega)]
end
theorem bb_l88b {K : ab_Kt} {H : Nat → Option ab_C} {s c n : Nat} (e : Nat) (he : e ≤ 6) : ab_ev K 88 35 [some (.ref s), some (.int (ab_I (e : Int)))] [] (bb_pS H s e 0, s + 3 + 6 * e, c + 6 * e, n + 64 * e) = ab_ev K 88 62 [some (.ref s), some (.int (ab_I 0))] [] (bb_pS H s 6 0, s + 39, c + 36, n + 384) := by
  by_cases h6 : e < 6
  · skip
    refine (ab_e88_35).trans ?_
    refine (ab_e88_36).trans ?_
    refine (ab_e88_38 (ab_rgI (by omega) (by omega)) (ab_rgI (by omega) (by omega))).trans ?_
    refine (ab_br_f (by omega)).trans ?_
    refine (ab_e88_41).trans ?_
    refine (bb_gGet (congrFun ab_q88 42) bb_pS_s rfl).trans ?_
    refine (ab_e88_45).trans ?_
    refine (bb_gNew (N := 13) (congrFun ab_q88 46) rfl).trans ?_
    refine (ab_e88_49).trans ?_
    refine (bb_gCall (congrFun ab_q88 50) (Nat.le_of_ble_eq_true rfl) (bb_y173 bb_st_eq) ⟨by dsimp only; omega, by dsimp only; omega⟩).trans ?_
    refine (bb_gAast (congrFun ab_q88 53) ((bb_mkB_ne (by omega)).trans ((bb_st_ne (by omega)).trans bb_pS_1)) bb_mkB_b (by omega) (by omega) (by decide)).trans ?_
    refine (ab_e88_54 (by with_unfolding_all rfl)).trans ?_
    refine (ab_e88_57).trans ?_
    rw [show ((e : Int) + 1) = ((e + 1 : Nat) : Int) by omega]
    exact bb_ch (bb_l88b (c := c) (n := n) (e + 1) (by omega)) (bb_pS_e h6) (by omega) (by omega) (by omega)
  · obtain rfl : e = 6 := by omega
    refine (ab_e88_35).trans ?_
    refine (ab_e88_36).trans ?_
    refine (ab_e88_38 (ab_rgI (by omega) (by omega)) (ab_rgI (by omega) (by omega))).trans ?_
    refine (ab_br_t (by omega)).trans ?_
    refine (ab_e88_60).trans ?_
    refine (ab_e88_61 (by with_unfolding_all rfl)).trans ?_
    exact bb_ch rfl rfl (by omega) (by omega) (by omega)
termination_by 6 - e
theorem bb_l88p {K : ab_Kt} {H : Nat → Option ab_C} {s c n : Nat} (p : Nat) (hp : p ≤ 2) : ab_ev K 88 62 [some (.ref s), some (.int (ab_I (p : Int)))] [] (bb_pS H s 6 p, s + 39 + 2 * p, c + 2 * p, n + 5 * p) = some (.inl none, (bb_mkS H s, s + 43, c + 4, n + 10)) := by
  by_cases h6 : p < 2
  · skip
    refine (ab_e88_62).trans ?_
    refine (ab_e88_63).trans ?_
    refine (ab_e88_64 (ab_rgI (by omega) (by omega)) (ab_rgI (by omega) (by omega))).trans ?_
    refine (ab_br_f (by omega)).trans ?_
    refine (ab_e88_67).trans ?_
    refine (bb_gGet (congrFun ab_q88 68) bb_pS_s rfl).trans ?_
    refine (ab_e88_71).trans ?_
    refine (bb_gNew (N := 2) (congrFun ab_q88 72) rfl).trans ?_
    refine (ab_e88_75).trans ?_
    refine (bb_gCall (congrFun ab_q88 76) (Nat.le_of_ble_eq_true rfl) (bb_y174 bb_st_eq) ⟨by dsimp only; omega, by dsimp only; omega⟩).trans ?_
    refine (bb_gAast (congrFun ab_q88 79) ((bb_mkP_ne (by omega)).trans ((bb_st_ne (by omega)).trans bb_pS_2)) bb_mkP_b (by omega) (by omega) (by decide)).trans ?_
    refine (ab_e88_80 (by with_unfolding_all rfl)).trans ?_
    refine (ab_e88_83).trans ?_
    rw [show ((p : Int) + 1) = ((p + 1 : Nat) : Int) by omega]
    exact bb_ch (bb_l88p (c := c) (n := n) (p + 1) (by omega)) (bb_pS_p h6) (by omega) (by omega) (by omega)
  · obtain rfl : p = 2 := by omega
    refine (ab_e88_62).trans ?_
    refine (ab_e88_63).trans ?_
    refine (ab_e88_64 (ab_rgI (by omega) (by omega)) (ab_rgI (by omega) (by omega))).trans ?_
    refine (ab_br_t (by omega)).trans ?_
    rw [ab_e88_86]
    exact bb_tup bb_pS_S (by omega) (by omega) (by omega)
termination_by 2 - p
theorem bb_y88 {K : ab_Kt} {H : Nat → Option ab_C} {s c n : Nat} (hb : H s = some (.inr (9, [.null, .null, .int 0, .int 0, .int 0, .int 0, .int 0, .int 0, .int 0, .int 0]))) : ab_cal K 88 [.ref s] (H, s + 1, c, n) = some (.inl none, (bb_mkS H s, s + 43, c + 42, n + 402)) := by
  rw [ab_a88]
  refine (ab_e88_0).trans ?_
  refine (bb_gIni (congrFun ab_q88 1) (Nat.le_of_ble_eq_true rfl)).trans ?_
  refine (ab_e88_4).trans ?_
  refine (ab_e88_5).trans ?_
  refine (bb_gR (n := 6) (N := 6) (congrFun ab_q88 7) (by decide) (by decide) rfl).trans ?_
  refine (bb_gPut (congrFun ab_q88 10) ((bb_st_ne (by omega)).trans hb) (Nat.le_of_ble_eq_true rfl) rfl).trans ?_
  refine (ab_e88_13).trans ?_
  refine (ab_e88_14).trans ?_
  refine (bb_gR (n := 2) (N := 2) (congrFun ab_q88 15) (by decide) (by decide) rfl).trans ?_
  refine (bb_gPut (congrFun ab_q88 18) ((bb_st_ne (by omega)).trans bb_st_eq) (Nat.le_of_ble_eq_true rfl) rfl).trans ?_
  refine (ab_e88_21).trans ?_
  refine (ab_e88_22).trans ?_
  refine (bb_gPut (congrFun ab_q88 24) bb_st_eq (Nat.le_of_ble_eq_true rfl) rfl).trans ?_
  refine (ab_e88_27).trans ?_
  refine (ab_e88_28).trans ?_
  refine (bb_gPut (congrFun ab_q88 30) bb_st_eq (Nat.le_of_ble_eq_true rfl) rfl).trans ?_
  refine (ab_e88_33).trans ?_
  refine (ab_e88_34 (by with_unfolding_all rfl)).trans ?_
  have e1 := bb_l88b (K := K) (H := H) (s := s) (c := c + 2) (n := n + 8) 0 (by omega)
  have e2 := bb_l88p (K := K) (H := H) (s := s) (c := c + 38) (n := n + 392) 0 (by omega)
  rw [show ((0 : Nat) : Int) = 0 from rfl] at e1 e2
  refine bb_ch (e1.trans (bb_ch e2 rfl (by omega) (by omega) (by omega))) ?_ (by omega) (by omega) (by omega)
  funext i
  by_cases h0 : i = s
  · subst h0
    rw [bb_pS_s]
    unfold bb_st
    repeat' split
    all_goals first | rfl | (exfalso; omega)
  by_cases h1 : i = s + 1
  · subst h1
    rw [bb_pS_1]
    unfold bb_st
    repeat' split
    all_goals first | rfl | (exfalso; omega) | (refine congrArg (fun (f : Nat → Option Nat) => (some (Sum.inl (6, 6, Sum.inr (Sum.inr (Sum.inr (Sum.inr f))))) : Option ab_C)) ?_; funext j; rw [if_neg (by omega)])
  by_cases h2 : i = s + 2
  · subst h2
    rw [bb_pS_2]
    unfold bb_st
    repeat' split
    all_goals first | rfl | (exfalso; omega) | (refine congrArg (fun (f : Nat → Option Nat) => (some (Sum.inl (7, 2, Sum.inr (Sum.inr (Sum.inr (Sum.inr f))))) : Option ab_C)) ?_; funext j; rw [if_neg (by omega)])
  · rw [bb_pS_ne h0 h1 h2, if_neg (by omega)]
    unfold bb_st
    repeat' split
    all_goals first | rfl | (exfalso; omega)
