/-! ===== the constructors: steps in any world ===== -/
def bb_st (H : Nat → Option ab_C) (i : Nat) (C : ab_C) : Nat → Option ab_C := fun j => if j = i then some C else H j
section
variable {K : ab_Kt} {M pc nx : Nat} {ls : ab_Ls} {st : List Value} {H : Nat → Option ab_C} {q c s : Nat}
theorem bb_st_eq {i : Nat} {C : ab_C} : bb_st H i C i = some C := if_pos rfl
theorem bb_st_ne {i j : Nat} {C : ab_C} (h : j ≠ i) : bb_st H i C j = H j := if_neg h
theorem bb_gNew {ci N : Nat} {fs : List Value} (hq : ab_P9 K M pc = ab_newo ci fs nx) (hl : fs.length = N) : ab_ev K M pc ls st (H, q, c, s) = ab_ev K M nx ls (.ref q :: st) (bb_st H q (.inr (ci, fs)), q + 1, c + 1, s + N) := by
  subst hl
  exact ab_goI hq rfl
theorem bb_gA0 {n : Int} {N : Nat} (hq : ab_P9 K M pc = ab_newa0 nx) (h0 : 0 ≤ n) (h1 : n ≤ 60000000) (hN : n.toNat = N) : ab_ev K M pc ls (.int (ab_I n) :: st) (H, q, c, s) = ab_ev K M nx ls (.ref q :: st) (bb_st H q (.inl (0, N, .inl (fun _ => 0))), q + 1, c + 1, s + N) := by
  have hc : (ab_I n).toNatClampNeg = N := by rw [ab_I_clamp h0 (by omega), hN]
  have hg : 0 ≤ ab_I n ∧ (ab_I n).toNatClampNeg ≤ 60000000 := ⟨(ab_I_le ab_rg0 (ab_rgI (by omega) (by omega))).mpr h0, by rw [hc]; omega⟩
  refine ab_goI hq ?_
  unfold ab_newa0
  dsimp only
  rw [if_pos hg, hc]
  rfl
theorem bb_gA1 {n : Int} {N : Nat} (hq : ab_P9 K M pc = ab_newa1 nx) (h0 : 0 ≤ n) (h1 : n ≤ 60000000) (hN : n.toNat = N) : ab_ev K M pc ls (.int (ab_I n) :: st) (H, q, c, s) = ab_ev K M nx ls (.ref q :: st) (bb_st H q (.inl (1, N, .inl (fun _ => 0))), q + 1, c + 1, s + N) := by
  have hc : (ab_I n).toNatClampNeg = N := by rw [ab_I_clamp h0 (by omega), hN]
  have hg : 0 ≤ ab_I n ∧ (ab_I n).toNatClampNeg ≤ 60000000 := ⟨(ab_I_le ab_rg0 (ab_rgI (by omega) (by omega))).mpr h0, by rw [hc]; omega⟩
  refine ab_goI hq ?_
  unfold ab_newa1
  dsimp only
  rw [if_pos hg, hc]
  rfl
theorem bb_gA2 {n : Int} {N : Nat} (hq : ab_P9 K M pc = ab_newa2 nx) (h0 : 0 ≤ n) (h1 : n ≤ 60000000) (hN : n.toNat = N) : ab_ev K M pc ls (.int (ab_I n) :: st) (H, q, c, s) = ab_ev K M nx ls (.ref q :: st) (bb_st H q (.inl (2, N, .inr (.inl (fun _ => 0)))), q + 1, c + 1, s + N) := by
  have hc : (ab_I n).toNatClampNeg = N := by rw [ab_I_clamp h0 (by omega), hN]
  have hg : 0 ≤ ab_I n ∧ (ab_I n).toNatClampNeg ≤ 60000000 := ⟨(ab_I_le ab_rg0 (ab_rgI (by omega) (by omega))).mpr h0, by rw [hc]; omega⟩
  refine ab_goI hq ?_
  unfold ab_newa2
  dsimp only
  rw [if_pos hg, hc]
  rfl
theorem bb_gA3 {n : Int} {N : Nat} (hq : ab_P9 K M pc = ab_newa3 nx) (h0 : 0 ≤ n) (h1 : n ≤ 60000000) (hN : n.toNat = N) : ab_ev K M pc ls (.int (ab_I n) :: st) (H, q, c, s) = ab_ev K M nx ls (.ref q :: st) (bb_st H q (.inl (3, N, .inl (fun _ => 0))), q + 1, c + 1, s + N) := by
  have hc : (ab_I n).toNatClampNeg = N := by rw [ab_I_clamp h0 (by omega), hN]
  have hg : 0 ≤ ab_I n ∧ (ab_I n).toNatClampNeg ≤ 60000000 := ⟨(ab_I_le ab_rg0 (ab_rgI (by omega) (by omega))).mpr h0, by rw [hc]; omega⟩
  refine ab_goI hq ?_
  unfold ab_newa3
  dsimp only
  rw [if_pos hg, hc]
  rfl
theorem bb_gA4 {n : Int} {N : Nat} (hq : ab_P9 K M pc = ab_newa4 nx) (h0 : 0 ≤ n) (h1 : n ≤ 60000000) (hN : n.toNat = N) : ab_ev K M pc ls (.int (ab_I n) :: st) (H, q, c, s) = ab_ev K M nx ls (.ref q :: st) (bb_st H q (.inl (4, N, .inl (fun _ => 0))), q + 1, c + 1, s + N) := by
  have hc : (ab_I n).toNatClampNeg = N := by rw [ab_I_clamp h0 (by omega), hN]
  have hg : 0 ≤ ab_I n ∧ (ab_I n).toNatClampNeg ≤ 60000000 := ⟨(ab_I_le ab_rg0 (ab_rgI (by omega) (by omega))).mpr h0, by rw [hc]; omega⟩
  refine ab_goI hq ?_
  unfold ab_newa4
  dsimp only
  rw [if_pos hg, hc]
  rfl
theorem bb_gA5 {n : Int} {N : Nat} (hq : ab_P9 K M pc = ab_newa5 nx) (h0 : 0 ≤ n) (h1 : n ≤ 60000000) (hN : n.toNat = N) : ab_ev K M pc ls (.int (ab_I n) :: st) (H, q, c, s) = ab_ev K M nx ls (.ref q :: st) (bb_st H q (.inl (5, N, .inr (.inr (.inr (.inl (fun _ => 0)))))), q + 1, c + 1, s + N) := by
  have hc : (ab_I n).toNatClampNeg = N := by rw [ab_I_clamp h0 (by omega), hN]
  have hg : 0 ≤ ab_I n ∧ (ab_I n).toNatClampNeg ≤ 60000000 := ⟨(ab_I_le ab_rg0 (ab_rgI (by omega) (by omega))).mpr h0, by rw [hc]; omega⟩
  refine ab_goI hq ?_
  unfold ab_newa5
  dsimp only
  rw [if_pos hg, hc]
  rfl
theorem bb_gR {t : Nat} {n : Int} {N : Nat} (hq : ab_P9 K M pc = ab_newr t nx) (h0 : 0 ≤ n) (h1 : n ≤ 60000000) (hN : n.toNat = N) : ab_ev K M pc ls (.int (ab_I n) :: st) (H, q, c, s) = ab_ev K M nx ls (.ref q :: st) (bb_st H q (.inl (t, N, .inr (.inr (.inr (.inr (fun _ => none)))))), q + 1, c + 1, s + N) := by
  have hc : (ab_I n).toNatClampNeg = N := by rw [ab_I_clamp h0 (by omega), hN]
  have hg : 0 ≤ ab_I n ∧ (ab_I n).toNatClampNeg ≤ 60000000 := ⟨(ab_I_le ab_rg0 (ab_rgI (by omega) (by omega))).mpr h0, by rw [hc]; omega⟩
  refine ab_goI hq ?_
  unfold ab_newr
  dsimp only
  rw [if_pos hg, hc]
  rfl
theorem bb_gPut {ci k b : Nat} {ty : FieldType} {v : Value} {fs : List Value} (hq : ab_P9 K M pc = ab_putf ci k ty nx) (hb : H b = some (.inr (ci, fs))) (hk : k < fs.length) (hf : ab_fit ty v = true) : ab_ev K M pc ls (v :: .ref b :: st) (H, q, c, s) = ab_ev K M nx ls st (bb_st H b (.inr (ci, fs.set k v)), q, c, s) := by
  refine ab_goI hq ?_
  unfold ab_putf
  dsimp only
  rw [hb]
  exact if_pos ⟨rfl, hk, hf⟩
theorem bb_gGet {ci k b : Nat} {v : Value} {fs : List Value} (hq : ab_P9 K M pc = ab_getf ci k nx) (hb : H b = some (.inr (ci, fs))) (hv : fs[k]? = some v) : ab_ev K M pc ls (.ref b :: st) (H, q, c, s) = ab_ev K M nx ls (v :: st) (H, q, c, s) := ab_goI hq (ab_oGetf hb hv)
theorem bb_gAst0 {b n : Nat} {i v : Int} {f : Nat → Int32} (hq : ab_P9 K M pc = ab_ast 0 .int nx) (hb : H b = some (.inl (0, n, .inl f))) (h0 : 0 ≤ i) (h1 : i < n) (h2 : n ≤ 60000000) : ab_ev K M pc ls (.int (ab_I v) :: .int (ab_I i) :: .ref b :: st) (H, q, c, s) = ab_ev K M nx ls st (bb_st H b (.inl (0, n, .inl (fun j => if j = i.toNat then ab_I v else f j))), q, c, s) := by
  have hc : (ab_I i).toNatClampNeg = i.toNat := ab_I_clamp h0 (by omega)
  have hg : (0 : Nat) = 0 ∧ 0 ≤ ab_I i ∧ (ab_I i).toNatClampNeg < n := ⟨rfl, (ab_I_le ab_rg0 (ab_rgI (by omega) (by omega))).mpr h0, by rw [hc]; omega⟩
  refine ab_goI hq ?_
  unfold ab_ast
  dsimp only
  rw [hb]
  dsimp only
  rw [if_pos hg, hc]
  rfl
theorem bb_gAast {t ci b v n : Nat} {i : Int} {f : Nat → Option Nat} {fs : List Value} (hq : ab_P9 K M pc = ab_aast t ci nx) (hb : H b = some (.inl (t, n, .inr (.inr (.inr (.inr f)))))) (hv : H v = some (.inr (ci, fs))) (h0 : 0 ≤ i) (h1 : i < n) (h2 : n ≤ 60000000) : ab_ev K M pc ls (.ref v :: .int (ab_I i) :: .ref b :: st) (H, q, c, s) = ab_ev K M nx ls st (bb_st H b (.inl (t, n, .inr (.inr (.inr (.inr (fun j => if j = i.toNat then some v else f j)))))), q, c, s) := by
  have hc : (ab_I i).toNatClampNeg = i.toNat := ab_I_clamp h0 (by omega)
  have hg : t = t ∧ ci = ci ∧ 0 ≤ ab_I i ∧ (ab_I i).toNatClampNeg < n := ⟨rfl, rfl, (ab_I_le ab_rg0 (ab_rgI (by omega) (by omega))).mpr h0, by rw [hc]; omega⟩
  refine ab_goI hq ?_
  unfold ab_aast
  dsimp only
  rw [hb]
  dsimp only
  rw [hv]
  dsimp only
  rw [if_pos hg, hc]
  rfl
theorem bb_gCall {M' b : Nat} {h h' : ab_H} (hq : ab_P9 K M pc = ab_callI M' 0 nx) (hl : st.length ≤ 4) (hc : ab_cal K M' [.ref b] h = some (.inl none, h')) (hle : h.2.2.1 ≤ h'.2.2.1 ∧ h.2.2.2 ≤ h'.2.2.2) : ab_ev K M pc ls (.ref b :: st) h = ab_ev K M nx ls st h' := by
  have ho : ab_callI M' 0 nx ls (.ref b :: st) h = some (.inr (.inr (M', [.ref b], st, nx))) := if_pos hl
  rw [ab_goC hq ho, hc]
  exact if_pos (ab_le_iff.mpr hle)
theorem bb_gCall1 {M' b : Nat} {x : Value} {h h' : ab_H} (hq : ab_P9 K M pc = ab_callI M' 1 nx) (hl : st.length ≤ 4) (hc : ab_cal K M' [.ref b, x] h = some (.inl none, h')) (hle : h.2.2.1 ≤ h'.2.2.1 ∧ h.2.2.2 ≤ h'.2.2.2) : ab_ev K M pc ls (x :: .ref b :: st) h = ab_ev K M nx ls st h' := by
  have ho : ab_callI M' 1 nx ls (x :: .ref b :: st) h = some (.inr (.inr (M', [.ref b, x], st, nx))) := if_pos hl
  rw [ab_goC hq ho, hc]
  exact if_pos (ab_le_iff.mpr hle)
theorem bb_gIni {b : Nat} {h : ab_H} (hq : ab_P9 K M pc = ab_oini nx) (hl : st.length ≤ 4) : ab_ev K M pc ls (.ref b :: st) h = ab_ev K M nx ls st h := ab_goI hq (if_pos hl)
theorem bb_gGst {v : Value} (hq : ab_P9 K M pc = ab_gst v nx) (h17 : 17 ≤ q) : ab_ev K M pc ls st (H, q, c, s) = ab_ev K M nx ls (v :: st) (H, q, c, s) := ab_goI hq (if_pos h17)
theorem bb_tup {H' : Nat → Option ab_C} {q' c' s' : Nat} (h1 : H = H') (h2 : q = q') (h3 : c = c') (h4 : s = s') : (some (Sum.inl none, (H, q, c, s)) : Option (ab_O × ab_H)) = some (Sum.inl none, (H', q', c', s')) := by
  subst h1 h2 h3 h4
  rfl
end
section
variable {K : ab_Kt}
theorem ab_q1 : ab_P9 K 1 = ab_c1 := rfl
theorem bb_a1 {a0 : Nat} {h : ab_H} : ab_cal K 1 [.ref a0] h = ab_ev K 1 0 [some (.ref a0)] [] h := ab_cal_eq rfl rfl
theorem ab_e1_0 {h : ab_H} {a : Nat} : ab_ev K 1 0 [some (.ref a)] [] h = ab_ev K 1 1 [some (.ref a)] [.ref a] h := ab_goI (op := ab_aload 0 1) (congrFun ab_q1 0) rfl
theorem ab_e1_4 {h : ab_H} {a : Nat} : ab_ev K 1 4 [some (.ref a)] [] h = ab_ev K 1 5 [some (.ref a)] [.ref a] h := ab_goI (op := ab_aload 0 5) (congrFun ab_q1 4) rfl
theorem ab_e1_8 {x0 : Option Value} {s1 : Value} {h : ab_H} {a0 : Nat} : ab_ev K 1 8 [x0] [.ref a0, s1] h = ab_ev K 1 9 [x0] [.ref a0, .ref a0, s1] h := ab_goI (op := ab_dup 9) (congrFun ab_q1 8) rfl
theorem ab_e1_15 {h : ab_H} {a : Nat} : ab_ev K 1 15 [some (.ref a)] [] h = ab_ev K 1 16 [some (.ref a)] [.ref a] h := ab_goI (op := ab_aload 0 16) (congrFun ab_q1 15) rfl
theorem ab_e1_16 {s0 : Value} {h : ab_H} {a : Nat} : ab_ev K 1 16 [some (.ref a)] [s0] h = ab_ev K 1 17 [some (.ref a)] [.ref a, s0] h := ab_goI (op := ab_aload 0 17) (congrFun ab_q1 16) rfl
theorem ab_e1_26 {h : ab_H} {a : Nat} : ab_ev K 1 26 [some (.ref a)] [] h = ab_ev K 1 27 [some (.ref a)] [.ref a] h := ab_goI (op := ab_aload 0 27) (congrFun ab_q1 26) rfl
theorem ab_e1_30 {x0 : Option Value} {s1 : Value} {h : ab_H} {a0 : Nat} : ab_ev K 1 30 [x0] [.ref a0, s1] h = ab_ev K 1 31 [x0] [.ref a0, .ref a0, s1] h := ab_goI (op := ab_dup 31) (congrFun ab_q1 30) rfl
theorem ab_e1_37 {h : ab_H} {a : Nat} : ab_ev K 1 37 [some (.ref a)] [] h = ab_ev K 1 38 [some (.ref a)] [.ref a] h := ab_goI (op := ab_aload 0 38) (congrFun ab_q1 37) rfl
theorem ab_e1_41 {x0 : Option Value} {s1 : Value} {h : ab_H} {a0 : Nat} : ab_ev K 1 41 [x0] [.ref a0, s1] h = ab_ev K 1 42 [x0] [.ref a0, .ref a0, s1] h := ab_goI (op := ab_dup 42) (congrFun ab_q1 41) rfl
theorem ab_e1_48 {h : ab_H} {a : Nat} : ab_ev K 1 48 [some (.ref a)] [] h = ab_ev K 1 49 [some (.ref a)] [.ref a] h := ab_goI (op := ab_aload 0 49) (congrFun ab_q1 48) rfl
theorem ab_e1_52 {x0 : Option Value} {s1 : Value} {h : ab_H} {a0 : Nat} : ab_ev K 1 52 [x0] [.ref a0, s1] h = ab_ev K 1 53 [x0] [.ref a0, .ref a0, s1] h := ab_goI (op := ab_dup 53) (congrFun ab_q1 52) rfl
theorem ab_e1_59 {h : ab_H} {a : Nat} : ab_ev K 1 59 [some (.ref a)] [] h = ab_ev K 1 60 [some (.ref a)] [.ref a] h := ab_goI (op := ab_aload 0 60) (congrFun ab_q1 59) rfl
theorem ab_e1_60 {x0 : Option Value} {s0 : Value} {h : ab_H} : ab_ev K 1 60 [x0] [s0] h = ab_ev K 1 61 [x0] [.int (ab_I (-1)), s0] h := ab_goI (op := ab_iconst (-1) 61) (congrFun ab_q1 60) rfl
theorem ab_e1_64 {h : ab_H} {a : Nat} : ab_ev K 1 64 [some (.ref a)] [] h = ab_ev K 1 65 [some (.ref a)] [.ref a] h := ab_goI (op := ab_aload 0 65) (congrFun ab_q1 64) rfl
theorem ab_e1_68 {x0 : Option Value} {s1 : Value} {h : ab_H} {a0 : Nat} : ab_ev K 1 68 [x0] [.ref a0, s1] h = ab_ev K 1 69 [x0] [.ref a0, .ref a0, s1] h := ab_goI (op := ab_dup 69) (congrFun ab_q1 68) rfl
theorem ab_e1_75 {h : ab_H} {a : Nat} : ab_ev K 1 75 [some (.ref a)] [] h = ab_ev K 1 76 [some (.ref a)] [.ref a] h := ab_goI (op := ab_aload 0 76) (congrFun ab_q1 75) rfl
theorem ab_e1_76 {x0 : Option Value} {s0 : Value} {h : ab_H} : ab_ev K 1 76 [x0] [s0] h = ab_ev K 1 78 [x0] [.int (ab_I (6)), s0] h := ab_goI (op := ab_iconst (6) 78) (congrFun ab_q1 76) rfl
theorem ab_e1_83 {x0 : Option Value} {h : ab_H} : ab_ev K 1 83 [x0] [] h = some (.inl none, h) := ab_goE (op := ab_vret) (congrFun ab_q1 83) rfl
theorem ab_q2 : ab_P9 K 2 = ab_c2 := rfl
theorem ab_a2 {a0 : Nat} {h : ab_H} : ab_cal K 2 [.ref a0] h = ab_ev K 2 0 [some (.ref a0)] [] h := ab_cal_eq rfl rfl
theorem ab_e2_0 {h : ab_H} {a : Nat} : ab_ev K 2 0 [some (.ref a)] [] h = ab_ev K 2 1 [some (.ref a)] [.ref a] h := ab_goI (op := ab_aload 0 1) (congrFun ab_q2 0) rfl
theorem ab_e2_4 {h : ab_H} {a : Nat} : ab_ev K 2 4 [some (.ref a)] [] h = ab_ev K 2 5 [some (.ref a)] [.ref a] h := ab_goI (op := ab_aload 0 5) (congrFun ab_q2 4) rfl
theorem ab_e2_5 {x0 : Option Value} {s0 : Value} {h : ab_H} : ab_ev K 2 5 [x0] [s0] h = ab_ev K 2 8 [x0] [.int (ab_I (322)), s0] h := ab_goI (op := ab_iconst (322) 8) (congrFun ab_q2 5) rfl
theorem ab_e2_13 {h : ab_H} {a : Nat} : ab_ev K 2 13 [some (.ref a)] [] h = ab_ev K 2 14 [some (.ref a)] [.ref a] h := ab_goI (op := ab_aload 0 14) (congrFun ab_q2 13) rfl
theorem ab_e2_14 {x0 : Option Value} {s0 : Value} {h : ab_H} : ab_ev K 2 14 [x0] [s0] h = ab_ev K 2 17 [x0] [.int (ab_I (2576)), s0] h := ab_goI (op := ab_iconst (2576) 17) (congrFun ab_q2 14) rfl
theorem ab_e2_22 {h : ab_H} {a : Nat} : ab_ev K 2 22 [some (.ref a)] [] h = ab_ev K 2 23 [some (.ref a)] [.ref a] h := ab_goI (op := ab_aload 0 23) (congrFun ab_q2 22) rfl
theorem ab_e2_23 {x0 : Option Value} {s0 : Value} {h : ab_H} : ab_ev K 2 23 [x0] [s0] h = ab_ev K 2 26 [x0] [.int (ab_I (322)), s0] h := ab_goI (op := ab_iconst (322) 26) (congrFun ab_q2 23) rfl
theorem ab_e2_31 {h : ab_H} {a : Nat} : ab_ev K 2 31 [some (.ref a)] [] h = ab_ev K 2 32 [some (.ref a)] [.ref a] h := ab_goI (op := ab_aload 0 32) (congrFun ab_q2 31) rfl
theorem ab_e2_32 {x0 : Option Value} {s0 : Value} {h : ab_H} : ab_ev K 2 32 [x0] [s0] h = ab_ev K 2 35 [x0] [.int (ab_I (322)), s0] h := ab_goI (op := ab_iconst (322) 35) (congrFun ab_q2 32) rfl
theorem ab_e2_40 {h : ab_H} {a : Nat} : ab_ev K 2 40 [some (.ref a)] [] h = ab_ev K 2 41 [some (.ref a)] [.ref a] h := ab_goI (op := ab_aload 0 41) (congrFun ab_q2 40) rfl
theorem ab_e2_41 {x0 : Option Value} {s0 : Value} {h : ab_H} : ab_ev K 2 41 [x0] [s0] h = ab_ev K 2 43 [x0] [.int (ab_I (60)), s0] h := ab_goI (op := ab_iconst (60) 43) (congrFun ab_q2 41) rfl
theorem ab_e2_48 {h : ab_H} {a : Nat} : ab_ev K 2 48 [some (.ref a)] [] h = ab_ev K 2 49 [some (.ref a)] [.ref a] h := ab_goI (op := ab_aload 0 49) (congrFun ab_q2 48) rfl
theorem ab_e2_49 {x0 : Option Value} {s0 : Value} {h : ab_H} : ab_ev K 2 49 [x0] [s0] h = ab_ev K 2 50 [x0] [.int (ab_I (-1)), s0] h := ab_goI (op := ab_iconst (-1) 50) (congrFun ab_q2 49) rfl
theorem ab_e2_53 {h : ab_H} {a : Nat} : ab_ev K 2 53 [some (.ref a)] [] h = ab_ev K 2 54 [some (.ref a)] [.ref a] h := ab_goI (op := ab_aload 0 54) (congrFun ab_q2 53) rfl
theorem ab_e2_54 {x0 : Option Value} {s0 : Value} {h : ab_H} : ab_ev K 2 54 [x0] [s0] h = ab_ev K 2 57 [x0] [.int (ab_I (140)), s0] h := ab_goI (op := ab_iconst (140) 57) (congrFun ab_q2 54) rfl
theorem ab_e2_62 {h : ab_H} {a : Nat} : ab_ev K 2 62 [some (.ref a)] [] h = ab_ev K 2 63 [some (.ref a)] [.ref a] h := ab_goI (op := ab_aload 0 63) (congrFun ab_q2 62) rfl
theorem ab_e2_63 {x0 : Option Value} {s0 : Value} {h : ab_H} : ab_ev K 2 63 [x0] [s0] h = ab_ev K 2 66 [x0] [.int (ab_I (160)), s0] h := ab_goI (op := ab_iconst (160) 66) (congrFun ab_q2 63) rfl
theorem ab_e2_71 {h : ab_H} {a : Nat} : ab_ev K 2 71 [some (.ref a)] [] h = ab_ev K 2 72 [some (.ref a)] [.ref a] h := ab_goI (op := ab_aload 0 72) (congrFun ab_q2 71) rfl
theorem ab_e2_75 {x0 : Option Value} {s0 : Value} {h : ab_H} : ab_ev K 2 75 [x0] [s0] h = ab_ev K 2 76 [x0] [.int (ab_I (1)), s0] h := ab_goI (op := ab_iconst (1) 76) (congrFun ab_q2 75) rfl
theorem ab_e2_76 {x0 : Option Value} {s0 s1 : Value} {h : ab_H} : ab_ev K 2 76 [x0] [s0, s1] h = ab_ev K 2 78 [x0] [.int (ab_I (20)), s0, s1] h := ab_goI (op := ab_iconst (20) 78) (congrFun ab_q2 76) rfl
theorem ab_e2_79 {h : ab_H} {a : Nat} : ab_ev K 2 79 [some (.ref a)] [] h = ab_ev K 2 80 [some (.ref a)] [.ref a] h := ab_goI (op := ab_aload 0 80) (congrFun ab_q2 79) rfl
theorem ab_e2_83 {x0 : Option Value} {s0 : Value} {h : ab_H} : ab_ev K 2 83 [x0] [s0] h = ab_ev K 2 84 [x0] [.int (ab_I (2)), s0] h := ab_goI (op := ab_iconst (2) 84) (congrFun ab_q2 83) rfl
theorem ab_e2_84 {x0 : Option Value} {s0 s1 : Value} {h : ab_H} : ab_ev K 2 84 [x0] [s0, s1] h = ab_ev K 2 86 [x0] [.int (ab_I (100)), s0, s1] h := ab_goI (op := ab_iconst (100) 86) (congrFun ab_q2 84) rfl
theorem ab_e2_87 {x0 : Option Value} {h : ab_H} : ab_ev K 2 87 [x0] [] h = some (.inl none, h) := ab_goE (op := ab_vret) (congrFun ab_q2 87) rfl
theorem ab_q86 : ab_P9 K 86 = ab_c86 := rfl
theorem ab_a86 {a0 : Nat} {h : ab_H} : ab_cal K 86 [.ref a0] h = ab_ev K 86 0 [some (.ref a0)] [] h := ab_cal_eq rfl rfl
theorem ab_e86_0 {h : ab_H} {a : Nat} : ab_ev K 86 0 [some (.ref a)] [] h = ab_ev K 86 1 [some (.ref a)] [.ref a] h := ab_goI (op := ab_aload 0 1) (congrFun ab_q86 0) rfl
theorem ab_e86_4 {h : ab_H} {a : Nat} : ab_ev K 86 4 [some (.ref a)] [] h = ab_ev K 86 5 [some (.ref a)] [.ref a] h := ab_goI (op := ab_aload 0 5) (congrFun ab_q86 4) rfl
theorem ab_e86_8 {x0 : Option Value} {s1 : Value} {h : ab_H} {a0 : Nat} : ab_ev K 86 8 [x0] [.ref a0, s1] h = ab_ev K 86 9 [x0] [.ref a0, .ref a0, s1] h := ab_goI (op := ab_dup 9) (congrFun ab_q86 8) rfl
theorem ab_e86_15 {x0 : Option Value} {h : ab_H} : ab_ev K 86 15 [x0] [] h = some (.inl none, h) := ab_goE (op := ab_vret) (congrFun ab_q86 15) rfl
theorem ab_q87 : ab_P9 K 87 = ab_c87 := rfl
theorem ab_a87 {a0 : Nat} {h : ab_H} : ab_cal K 87 [.ref a0] h = ab_ev K 87 0 [some (.ref a0), none] [] h := ab_cal_eq rfl rfl
theorem ab_e87_0 {x1 : Option Value} {h : ab_H} {a : Nat} : ab_ev K 87 0 [some (.ref a), x1] [] h = ab_ev K 87 1 [some (.ref a), x1] [.ref a] h := ab_goI (op := ab_aload 0 1) (congrFun ab_q87 0) rfl
theorem ab_e87_4 {x1 : Option Value} {h : ab_H} {a : Nat} : ab_ev K 87 4 [some (.ref a), x1] [] h = ab_ev K 87 5 [some (.ref a), x1] [.ref a] h := ab_goI (op := ab_aload 0 5) (congrFun ab_q87 4) rfl
theorem ab_e87_5 {x0 x1 : Option Value} {s0 : Value} {h : ab_H} : ab_ev K 87 5 [x0, x1] [s0] h = ab_ev K 87 7 [x0, x1] [.int (ab_I (9)), s0] h := ab_goI (op := ab_iconst (9) 7) (congrFun ab_q87 5) rfl
theorem ab_e87_13 {x0 x1 : Option Value} {h : ab_H} : ab_ev K 87 13 [x0, x1] [] h = ab_ev K 87 14 [x0, x1] [.int (ab_I (0))] h := ab_goI (op := ab_iconst (0) 14) (congrFun ab_q87 13) rfl
theorem ab_e87_14 {x0 x1 : Option Value} {h : ab_H} {a : Int32} (hg : ab_g [x0, x1] 1 = true) : ab_ev K 87 14 [x0, x1] [.int a] h = ab_ev K 87 15 [x0, some (.int a)] [] h := ab_goI (op := ab_istore 1 15) (congrFun ab_q87 14) (ab_oIstore (Nat.le_of_ble_eq_true rfl) hg)
theorem ab_e87_15 {x0 : Option Value} {h : ab_H} {a : Int32} : ab_ev K 87 15 [x0, some (.int a)] [] h = ab_ev K 87 16 [x0, some (.int a)] [.int a] h := ab_goI (op := ab_iload 1 16) (congrFun ab_q87 15) rfl
theorem ab_e87_16 {x0 x1 : Option Value} {s0 : Value} {h : ab_H} : ab_ev K 87 16 [x0, x1] [s0] h = ab_ev K 87 18 [x0, x1] [.int (ab_I (9)), s0] h := ab_goI (op := ab_iconst (9) 18) (congrFun ab_q87 16) rfl
theorem ab_e87_18 {x0 x1 : Option Value} {h : ab_H} {a b : Int} (ha : ab_rg a) (hb : ab_rg b) : ab_ev K 87 18 [x0, x1] [.int (ab_I b), .int (ab_I a)] h = ab_br K 87 40 21 [x0, x1] [] h (b ≤ a) := ab_brI (op := ab_icmp_ge 40 21) (congrFun ab_q87 18) rfl (ab_I_le hb ha)
theorem ab_e87_21 {x1 : Option Value} {h : ab_H} {a : Nat} : ab_ev K 87 21 [some (.ref a), x1] [] h = ab_ev K 87 22 [some (.ref a), x1] [.ref a] h := ab_goI (op := ab_aload 0 22) (congrFun ab_q87 21) rfl
theorem ab_e87_25 {x0 : Option Value} {s0 : Value} {h : ab_H} {a : Int32} : ab_ev K 87 25 [x0, some (.int a)] [s0] h = ab_ev K 87 26 [x0, some (.int a)] [.int a, s0] h := ab_goI (op := ab_iload 1 26) (congrFun ab_q87 25) rfl
theorem ab_e87_29 {x0 x1 : Option Value} {s1 s2 : Value} {h : ab_H} {a0 : Nat} : ab_ev K 87 29 [x0, x1] [.ref a0, s1, s2] h = ab_ev K 87 30 [x0, x1] [.ref a0, .ref a0, s1, s2] h := ab_goI (op := ab_dup 30) (congrFun ab_q87 29) rfl
theorem ab_e87_34 {x0 : Option Value} {h : ab_H} {a : Int} (hg : ab_g [x0, some (.int (ab_I a))] 1 = true) : ab_ev K 87 34 [x0, some (.int (ab_I a))] [] h = ab_ev K 87 37 [x0, some (.int (ab_I (a + (1))))] [] h := ab_goI (op := ab_iinc 1 (1) 37) (congrFun ab_q87 34) (ab_oIinc rfl hg rfl)
theorem ab_e87_37 {x0 x1 : Option Value} {h : ab_H} : ab_ev K 87 37 [x0, x1] [] h = ab_ev K 87 15 [x0, x1] [] h := ab_goI (op := ab_goto 15) (congrFun ab_q87 37) rfl
theorem ab_e87_40 {x0 x1 : Option Value} {h : ab_H} : ab_ev K 87 40 [x0, x1] [] h = some (.inl none, h) := ab_goE (op := ab_vret) (congrFun ab_q87 40) rfl
theorem ab_q88 : ab_P9 K 88 = ab_c88 := rfl
theorem ab_a88 {a0 : Nat} {h : ab_H} : ab_cal K 88 [.ref a0] h = ab_ev K 88 0 [some (.ref a0), none] [] h := ab_cal_eq rfl rfl
theorem ab_e88_0 {x1 : Option Value} {h : ab_H} {a : Nat} : ab_ev K 88 0 [some (.ref a), x1] [] h = ab_ev K 88 1 [some (.ref a), x1] [.ref a] h := ab_goI (op := ab_aload 0 1) (congrFun ab_q88 0) rfl
theorem ab_e88_4 {x1 : Option Value} {h : ab_H} {a : Nat} : ab_ev K 88 4 [some (.ref a), x1] [] h = ab_ev K 88 5 [some (.ref a), x1] [.ref a] h := ab_goI (op := ab_aload 0 5) (congrFun ab_q88 4) rfl
theorem ab_e88_5 {x0 x1 : Option Value} {s0 : Value} {h : ab_H} : ab_ev K 88 5 [x0, x1] [s0] h = ab_ev K 88 7 [x0, x1] [.int (ab_I (6)), s0] h := ab_goI (op := ab_iconst (6) 7) (congrFun ab_q88 5) rfl
theorem ab_e88_13 {x1 : Option Value} {h : ab_H} {a : Nat} : ab_ev K 88 13 [some (.ref a), x1] [] h = ab_ev K 88 14 [some (.ref a), x1] [.ref a] h := ab_goI (op := ab_aload 0 14) (congrFun ab_q88 13) rfl
theorem ab_e88_14 {x0 x1 : Option Value} {s0 : Value} {h : ab_H} : ab_ev K 88 14 [x0, x1] [s0] h = ab_ev K 88 15 [x0, x1] [.int (ab_I (2)), s0] h := ab_goI (op := ab_iconst (2) 15) (congrFun ab_q88 14) rfl
theorem ab_e88_21 {x1 : Option Value} {h : ab_H} {a : Nat} : ab_ev K 88 21 [some (.ref a), x1] [] h = ab_ev K 88 22 [some (.ref a), x1] [.ref a] h := ab_goI (op := ab_aload 0 22) (congrFun ab_q88 21) rfl
theorem ab_e88_22 {x0 x1 : Option Value} {s0 : Value} {h : ab_H} : ab_ev K 88 22 [x0, x1] [s0] h = ab_ev K 88 24 [x0, x1] [.int (ab_I (20)), s0] h := ab_goI (op := ab_iconst (20) 24) (congrFun ab_q88 22) rfl
theorem ab_e88_27 {x1 : Option Value} {h : ab_H} {a : Nat} : ab_ev K 88 27 [some (.ref a), x1] [] h = ab_ev K 88 28 [some (.ref a), x1] [.ref a] h := ab_goI (op := ab_aload 0 28) (congrFun ab_q88 27) rfl
theorem ab_e88_28 {x0 x1 : Option Value} {s0 : Value} {h : ab_H} : ab_ev K 88 28 [x0, x1] [s0] h = ab_ev K 88 30 [x0, x1] [.int (ab_I (100)), s0] h := ab_goI (op := ab_iconst (100) 30) (congrFun ab_q88 28) rfl
theorem ab_e88_33 {x0 x1 : Option Value} {h : ab_H} : ab_ev K 88 33 [x0, x1] [] h = ab_ev K 88 34 [x0, x1] [.int (ab_I (0))] h := ab_goI (op := ab_iconst (0) 34) (congrFun ab_q88 33) rfl
theorem ab_e88_34 {x0 x1 : Option Value} {h : ab_H} {a : Int32} (hg : ab_g [x0, x1] 1 = true) : ab_ev K 88 34 [x0, x1] [.int a] h = ab_ev K 88 35 [x0, some (.int a)] [] h := ab_goI (op := ab_istore 1 35) (congrFun ab_q88 34) (ab_oIstore (Nat.le_of_ble_eq_true rfl) hg)
theorem ab_e88_35 {x0 : Option Value} {h : ab_H} {a : Int32} : ab_ev K 88 35 [x0, some (.int a)] [] h = ab_ev K 88 36 [x0, some (.int a)] [.int a] h := ab_goI (op := ab_iload 1 36) (congrFun ab_q88 35) rfl
theorem ab_e88_36 {x0 x1 : Option Value} {s0 : Value} {h : ab_H} : ab_ev K 88 36 [x0, x1] [s0] h = ab_ev K 88 38 [x0, x1] [.int (ab_I (6)), s0] h := ab_goI (op := ab_iconst (6) 38) (congrFun ab_q88 36) rfl
theorem ab_e88_38 {x0 x1 : Option Value} {h : ab_H} {a b : Int} (ha : ab_rg a) (hb : ab_rg b) : ab_ev K 88 38 [x0, x1] [.int (ab_I b), .int (ab_I a)] h = ab_br K 88 60 41 [x0, x1] [] h (b ≤ a) := ab_brI (op := ab_icmp_ge 60 41) (congrFun ab_q88 38) rfl (ab_I_le hb ha)
theorem ab_e88_41 {x1 : Option Value} {h : ab_H} {a : Nat} : ab_ev K 88 41 [some (.ref a), x1] [] h = ab_ev K 88 42 [some (.ref a), x1] [.ref a] h := ab_goI (op := ab_aload 0 42) (congrFun ab_q88 41) rfl
theorem ab_e88_45 {x0 : Option Value} {s0 : Value} {h : ab_H} {a : Int32} : ab_ev K 88 45 [x0, some (.int a)] [s0] h = ab_ev K 88 46 [x0, some (.int a)] [.int a, s0] h := ab_goI (op := ab_iload 1 46) (congrFun ab_q88 45) rfl
theorem ab_e88_49 {x0 x1 : Option Value} {s1 s2 : Value} {h : ab_H} {a0 : Nat} : ab_ev K 88 49 [x0, x1] [.ref a0, s1, s2] h = ab_ev K 88 50 [x0, x1] [.ref a0, .ref a0, s1, s2] h := ab_goI (op := ab_dup 50) (congrFun ab_q88 49) rfl
theorem ab_e88_54 {x0 : Option Value} {h : ab_H} {a : Int} (hg : ab_g [x0, some (.int (ab_I a))] 1 = true) : ab_ev K 88 54 [x0, some (.int (ab_I a))] [] h = ab_ev K 88 57 [x0, some (.int (ab_I (a + (1))))] [] h := ab_goI (op := ab_iinc 1 (1) 57) (congrFun ab_q88 54) (ab_oIinc rfl hg rfl)
theorem ab_e88_57 {x0 x1 : Option Value} {h : ab_H} : ab_ev K 88 57 [x0, x1] [] h = ab_ev K 88 35 [x0, x1] [] h := ab_goI (op := ab_goto 35) (congrFun ab_q88 57) rfl
theorem ab_e88_60 {x0 x1 : Option Value} {h : ab_H} : ab_ev K 88 60 [x0, x1] [] h = ab_ev K 88 61 [x0, x1] [.int (ab_I (0))] h := ab_goI (op := ab_iconst (0) 61) (congrFun ab_q88 60) rfl
theorem ab_e88_61 {x0 x1 : Option Value} {h : ab_H} {a : Int32} (hg : ab_g [x0, x1] 1 = true) : ab_ev K 88 61 [x0, x1] [.int a] h = ab_ev K 88 62 [x0, some (.int a)] [] h := ab_goI (op := ab_istore 1 62) (congrFun ab_q88 61) (ab_oIstore (Nat.le_of_ble_eq_true rfl) hg)
theorem ab_e88_62 {x0 : Option Value} {h : ab_H} {a : Int32} : ab_ev K 88 62 [x0, some (.int a)] [] h = ab_ev K 88 63 [x0, some (.int a)] [.int a] h := ab_goI (op := ab_iload 1 63) (congrFun ab_q88 62) rfl
theorem ab_e88_63 {x0 x1 : Option Value} {s0 : Value} {h : ab_H} : ab_ev K 88 63 [x0, x1] [s0] h = ab_ev K 88 64 [x0, x1] [.int (ab_I (2)), s0] h := ab_goI (op := ab_iconst (2) 64) (congrFun ab_q88 63) rfl
theorem ab_e88_64 {x0 x1 : Option Value} {h : ab_H} {a b : Int} (ha : ab_rg a) (hb : ab_rg b) : ab_ev K 88 64 [x0, x1] [.int (ab_I b), .int (ab_I a)] h = ab_br K 88 86 67 [x0, x1] [] h (b ≤ a) := ab_brI (op := ab_icmp_ge 86 67) (congrFun ab_q88 64) rfl (ab_I_le hb ha)
theorem ab_e88_67 {x1 : Option Value} {h : ab_H} {a : Nat} : ab_ev K 88 67 [some (.ref a), x1] [] h = ab_ev K 88 68 [some (.ref a), x1] [.ref a] h := ab_goI (op := ab_aload 0 68) (congrFun ab_q88 67) rfl
theorem ab_e88_71 {x0 : Option Value} {s0 : Value} {h : ab_H} {a : Int32} : ab_ev K 88 71 [x0, some (.int a)] [s0] h = ab_ev K 88 72 [x0, some (.int a)] [.int a, s0] h := ab_goI (op := ab_iload 1 72) (congrFun ab_q88 71) rfl
theorem ab_e88_75 {x0 x1 : Option Value} {s1 s2 : Value} {h : ab_H} {a0 : Nat} : ab_ev K 88 75 [x0, x1] [.ref a0, s1, s2] h = ab_ev K 88 76 [x0, x1] [.ref a0, .ref a0, s1, s2] h := ab_goI (op := ab_dup 76) (congrFun ab_q88 75) rfl
theorem ab_e88_80 {x0 : Option Value} {h : ab_H} {a : Int} (hg : ab_g [x0, some (.int (ab_I a))] 1 = true) : ab_ev K 88 80 [x0, some (.int (ab_I a))] [] h = ab_ev K 88 83 [x0, some (.int (ab_I (a + (1))))] [] h := ab_goI (op := ab_iinc 1 (1) 83) (congrFun ab_q88 80) (ab_oIinc rfl hg rfl)
theorem ab_e88_83 {x0 x1 : Option Value} {h : ab_H} : ab_ev K 88 83 [x0, x1] [] h = ab_ev K 88 62 [x0, x1] [] h := ab_goI (op := ab_goto 62) (congrFun ab_q88 83) rfl
theorem ab_e88_86 {x0 x1 : Option Value} {h : ab_H} : ab_ev K 88 86 [x0, x1] [] h = some (.inl none, h) := ab_goE (op := ab_vret) (congrFun ab_q88 86) rfl
theorem ab_q89 : ab_P9 K 89 = ab_c89 := rfl
theorem ab_a89 {a0 : Nat} {h : ab_H} : ab_cal K 89 [.ref a0] h = ab_ev K 89 0 [some (.ref a0)] [] h := ab_cal_eq rfl rfl
theorem ab_e89_0 {h : ab_H} {a : Nat} : ab_ev K 89 0 [some (.ref a)] [] h = ab_ev K 89 1 [some (.ref a)] [.ref a] h := ab_goI (op := ab_aload 0 1) (congrFun ab_q89 0) rfl
theorem ab_e89_4 {h : ab_H} {a : Nat} : ab_ev K 89 4 [some (.ref a)] [] h = ab_ev K 89 5 [some (.ref a)] [.ref a] h := ab_goI (op := ab_aload 0 5) (congrFun ab_q89 4) rfl
theorem ab_e89_5 {x0 : Option Value} {s0 : Value} {h : ab_H} : ab_ev K 89 5 [x0] [s0] h = ab_ev K 89 7 [x0] [.int (ab_I (60)), s0] h := ab_goI (op := ab_iconst (60) 7) (congrFun ab_q89 5) rfl
theorem ab_e89_12 {h : ab_H} {a : Nat} : ab_ev K 89 12 [some (.ref a)] [] h = ab_ev K 89 13 [some (.ref a)] [.ref a] h := ab_goI (op := ab_aload 0 13) (congrFun ab_q89 12) rfl
theorem ab_e89_13 {x0 : Option Value} {s0 : Value} {h : ab_H} : ab_ev K 89 13 [x0] [s0] h = ab_ev K 89 14 [x0] [.int (ab_I (3)), s0] h := ab_goI (op := ab_iconst (3) 14) (congrFun ab_q89 13) rfl
theorem ab_e89_19 {x0 : Option Value} {h : ab_H} : ab_ev K 89 19 [x0] [] h = some (.inl none, h) := ab_goE (op := ab_vret) (congrFun ab_q89 19) rfl
theorem ab_q90 : ab_P9 K 90 = ab_c90 := rfl
theorem ab_a90 {a0 : Nat} {h : ab_H} : ab_cal K 90 [.ref a0] h = ab_ev K 90 0 [some (.ref a0)] [] h := ab_cal_eq rfl rfl
theorem ab_e90_0 {h : ab_H} {a : Nat} : ab_ev K 90 0 [some (.ref a)] [] h = ab_ev K 90 1 [some (.ref a)] [.ref a] h := ab_goI (op := ab_aload 0 1) (congrFun ab_q90 0) rfl
theorem ab_e90_1 {x0 : Option Value} {s0 : Value} {h : ab_H} : ab_ev K 90 1 [x0] [s0] h = ab_ev K 90 3 [x0] [.int (ab_I (16)), s0] h := ab_goI (op := ab_iconst (16) 3) (congrFun ab_q90 1) rfl
theorem ab_e90_6 {x0 : Option Value} {h : ab_H} : ab_ev K 90 6 [x0] [] h = some (.inl none, h) := ab_goE (op := ab_vret) (congrFun ab_q90 6) rfl
theorem ab_q173 : ab_P9 K 173 = ab_c173 := rfl
theorem ab_a173 {a0 : Nat} {h : ab_H} : ab_cal K 173 [.ref a0] h = ab_ev K 173 0 [some (.ref a0)] [] h := ab_cal_eq rfl rfl
theorem ab_e173_0 {h : ab_H} {a : Nat} : ab_ev K 173 0 [some (.ref a)] [] h = ab_ev K 173 1 [some (.ref a)] [.ref a] h := ab_goI (op := ab_aload 0 1) (congrFun ab_q173 0) rfl
theorem ab_e173_4 {h : ab_H} {a : Nat} : ab_ev K 173 4 [some (.ref a)] [] h = ab_ev K 173 5 [some (.ref a)] [.ref a] h := ab_goI (op := ab_aload 0 5) (congrFun ab_q173 4) rfl
theorem ab_e173_5 {x0 : Option Value} {s0 : Value} {h : ab_H} : ab_ev K 173 5 [x0] [s0] h = ab_ev K 173 6 [x0] [.int (ab_I (-1)), s0] h := ab_goI (op := ab_iconst (-1) 6) (congrFun ab_q173 5) rfl
theorem ab_e173_9 {h : ab_H} {a : Nat} : ab_ev K 173 9 [some (.ref a)] [] h = ab_ev K 173 10 [some (.ref a)] [.ref a] h := ab_goI (op := ab_aload 0 10) (congrFun ab_q173 9) rfl
theorem ab_e173_10 {x0 : Option Value} {s0 : Value} {h : ab_H} : ab_ev K 173 10 [x0] [s0] h = ab_ev K 173 12 [x0] [.int (ab_I (12)), s0] h := ab_goI (op := ab_iconst (12) 12) (congrFun ab_q173 10) rfl
theorem ab_e173_17 {h : ab_H} {a : Nat} : ab_ev K 173 17 [some (.ref a)] [] h = ab_ev K 173 18 [some (.ref a)] [.ref a] h := ab_goI (op := ab_aload 0 18) (congrFun ab_q173 17) rfl
theorem ab_e173_18 {x0 : Option Value} {s0 : Value} {h : ab_H} : ab_ev K 173 18 [x0] [s0] h = ab_ev K 173 20 [x0] [.int (ab_I (12)), s0] h := ab_goI (op := ab_iconst (12) 20) (congrFun ab_q173 18) rfl
theorem ab_e173_25 {h : ab_H} {a : Nat} : ab_ev K 173 25 [some (.ref a)] [] h = ab_ev K 173 26 [some (.ref a)] [.ref a] h := ab_goI (op := ab_aload 0 26) (congrFun ab_q173 25) rfl
theorem ab_e173_26 {x0 : Option Value} {s0 : Value} {h : ab_H} : ab_ev K 173 26 [x0] [s0] h = ab_ev K 173 28 [x0] [.int (ab_I (12)), s0] h := ab_goI (op := ab_iconst (12) 28) (congrFun ab_q173 26) rfl
theorem ab_e173_33 {h : ab_H} {a : Nat} : ab_ev K 173 33 [some (.ref a)] [] h = ab_ev K 173 34 [some (.ref a)] [.ref a] h := ab_goI (op := ab_aload 0 34) (congrFun ab_q173 33) rfl
theorem ab_e173_34 {x0 : Option Value} {s0 : Value} {h : ab_H} : ab_ev K 173 34 [x0] [s0] h = ab_ev K 173 36 [x0] [.int (ab_I (12)), s0] h := ab_goI (op := ab_iconst (12) 36) (congrFun ab_q173 34) rfl
theorem ab_e173_41 {h : ab_H} {a : Nat} : ab_ev K 173 41 [some (.ref a)] [] h = ab_ev K 173 42 [some (.ref a)] [.ref a] h := ab_goI (op := ab_aload 0 42) (congrFun ab_q173 41) rfl
theorem ab_e173_42 {x0 : Option Value} {s0 : Value} {h : ab_H} : ab_ev K 173 42 [x0] [s0] h = ab_ev K 173 43 [x0] [.int (ab_I (3)), s0] h := ab_goI (op := ab_iconst (3) 43) (congrFun ab_q173 42) rfl
theorem ab_e173_48 {x0 : Option Value} {h : ab_H} : ab_ev K 173 48 [x0] [] h = some (.inl none, h) := ab_goE (op := ab_vret) (congrFun ab_q173 48) rfl
theorem ab_q174 : ab_P9 K 174 = ab_c174 := rfl
theorem ab_a174 {a0 : Nat} {h : ab_H} : ab_cal K 174 [.ref a0] h = ab_ev K 174 0 [some (.ref a0)] [] h := ab_cal_eq rfl rfl
theorem ab_e174_0 {h : ab_H} {a : Nat} : ab_ev K 174 0 [some (.ref a)] [] h = ab_ev K 174 1 [some (.ref a)] [.ref a] h := ab_goI (op := ab_aload 0 1) (congrFun ab_q174 0) rfl
theorem ab_e174_4 {h : ab_H} {a : Nat} : ab_ev K 174 4 [some (.ref a)] [] h = ab_ev K 174 5 [some (.ref a)] [.ref a] h := ab_goI (op := ab_aload 0 5) (congrFun ab_q174 4) rfl
theorem ab_e174_5 {x0 : Option Value} {s0 : Value} {h : ab_H} : ab_ev K 174 5 [x0] [s0] h = ab_ev K 174 6 [x0] [.int (ab_I (3)), s0] h := ab_goI (op := ab_iconst (3) 6) (congrFun ab_q174 5) rfl
theorem ab_e174_11 {x0 : Option Value} {h : ab_H} : ab_ev K 174 11 [x0] [] h = some (.inl none, h) := ab_goE (op := ab_vret) (congrFun ab_q174 11) rfl
theorem ab_q175 : ab_P9 K 175 = ab_c175 := rfl
theorem ab_a175 {a0 : Nat} {a1 : Int32} {h : ab_H} : ab_cal K 175 [.ref a0, .int a1] h = ab_ev K 175 0 [some (.ref a0), some (.int a1)] [] h := ab_cal_eq rfl rfl
theorem ab_e175_0 {x1 : Option Value} {h : ab_H} {a : Nat} : ab_ev K 175 0 [some (.ref a), x1] [] h = ab_ev K 175 1 [some (.ref a), x1] [.ref a] h := ab_goI (op := ab_aload 0 1) (congrFun ab_q175 0) rfl
theorem ab_e175_7 {x0 x1 : Option Value} {h : ab_H} {a : Int} (ha : ab_rg a) : ab_ev K 175 7 [x0, x1] [.int (ab_I a)] h = ab_br K 175 25 10 [x0, x1] [] h (a = 0) := ab_brI (op := ab_if_eq 25 10) (congrFun ab_q175 7) rfl (ab_Ieq0 ha)
theorem ab_e175_10 {x1 : Option Value} {h : ab_H} {a : Nat} : ab_ev K 175 10 [some (.ref a), x1] [] h = ab_ev K 175 11 [some (.ref a), x1] [.ref a] h := ab_goI (op := ab_aload 0 11) (congrFun ab_q175 10) rfl
theorem ab_e175_11 {x0 : Option Value} {s0 : Value} {h : ab_H} {a : Int32} : ab_ev K 175 11 [x0, some (.int a)] [s0] h = ab_ev K 175 12 [x0, some (.int a)] [.int a, s0] h := ab_goI (op := ab_iload 1 12) (congrFun ab_q175 11) rfl
theorem ab_e175_17 {x1 : Option Value} {h : ab_H} {a : Nat} : ab_ev K 175 17 [some (.ref a), x1] [] h = ab_ev K 175 18 [some (.ref a), x1] [.ref a] h := ab_goI (op := ab_aload 0 18) (congrFun ab_q175 17) rfl
theorem ab_e175_18 {x0 x1 : Option Value} {s0 : Value} {h : ab_H} : ab_ev K 175 18 [x0, x1] [s0] h = ab_ev K 175 19 [x0, x1] [.int (ab_I (0)), s0] h := ab_goI (op := ab_iconst (0) 19) (congrFun ab_q175 18) rfl
theorem ab_e175_22 {x0 x1 : Option Value} {h : ab_H} : ab_ev K 175 22 [x0, x1] [] h = ab_ev K 175 38 [x0, x1] [] h := ab_goI (op := ab_goto 38) (congrFun ab_q175 22) rfl
theorem ab_e175_25 {x1 : Option Value} {h : ab_H} {a : Nat} : ab_ev K 175 25 [some (.ref a), x1] [] h = ab_ev K 175 26 [some (.ref a), x1] [.ref a] h := ab_goI (op := ab_aload 0 26) (congrFun ab_q175 25) rfl
theorem ab_e175_26 {x0 : Option Value} {s0 : Value} {h : ab_H} {a : Int32} : ab_ev K 175 26 [x0, some (.int a)] [s0] h = ab_ev K 175 27 [x0, some (.int a)] [.int a, s0] h := ab_goI (op := ab_iload 1 27) (congrFun ab_q175 26) rfl
theorem ab_e175_38 {x0 x1 : Option Value} {h : ab_H} : ab_ev K 175 38 [x0, x1] [] h = some (.inl none, h) := ab_goE (op := ab_vret) (congrFun ab_q175 38) rfl
theorem ab_e0_3 {x0 x1 x2 x3 x4 x5 x6 x7 x8 : Option Value} {h : ab_H} {a0 : Nat} : ab_ev K 0 3 [x0, x1, x2, x3, x4, x5, x6, x7, x8] [.ref a0] h = ab_ev K 0 4 [x0, x1, x2, x3, x4, x5, x6, x7, x8] [.ref a0, .ref a0] h := ab_goI (op := ab_dup 4) (congrFun (ab_q0 K) 3) rfl
theorem ab_e0_7 {x0 x1 x2 x3 x4 x5 x6 x7 x8 : Option Value} {h : ab_H} {a : Nat} (hg : ab_g [x0, x1, x2, x3, x4, x5, x6, x7, x8] 1 = true) : ab_ev K 0 7 [x0, x1, x2, x3, x4, x5, x6, x7, x8] [.ref a] h = ab_ev K 0 8 [x0, some (.ref a), x2, x3, x4, x5, x6, x7, x8] [] h := ab_goI (op := ab_astore 1 8) (congrFun (ab_q0 K) 7) (ab_oAstore (Nat.le_of_ble_eq_true rfl) hg)
theorem ab_e0_11 {x0 x1 x2 x3 x4 x5 x6 x7 x8 : Option Value} {h : ab_H} {a0 : Nat} : ab_ev K 0 11 [x0, x1, x2, x3, x4, x5, x6, x7, x8] [.ref a0] h = ab_ev K 0 12 [x0, x1, x2, x3, x4, x5, x6, x7, x8] [.ref a0, .ref a0] h := ab_goI (op := ab_dup 12) (congrFun (ab_q0 K) 11) rfl
theorem ab_e0_15 {x0 x1 x2 x3 x4 x5 x6 x7 x8 : Option Value} {h : ab_H} {a : Nat} (hg : ab_g [x0, x1, x2, x3, x4, x5, x6, x7, x8] 2 = true) : ab_ev K 0 15 [x0, x1, x2, x3, x4, x5, x6, x7, x8] [.ref a] h = ab_ev K 0 16 [x0, x1, some (.ref a), x3, x4, x5, x6, x7, x8] [] h := ab_goI (op := ab_astore 2 16) (congrFun (ab_q0 K) 15) (ab_oAstore (Nat.le_of_ble_eq_true rfl) hg)
theorem ab_e0_16 {x0 x1 x2 x3 x4 x5 x6 x7 x8 : Option Value} {h : ab_H} : ab_ev K 0 16 [x0, x1, x2, x3, x4, x5, x6, x7, x8] [] h = ab_ev K 0 17 [x0, x1, x2, x3, x4, x5, x6, x7, x8] [.int (ab_I (1))] h := ab_goI (op := ab_iconst (1) 17) (congrFun (ab_q0 K) 16) rfl
theorem ab_e0_19 {x0 x1 x2 x3 x4 x5 x6 x7 x8 : Option Value} {h : ab_H} {a : Nat} (hg : ab_g [x0, x1, x2, x3, x4, x5, x6, x7, x8] 3 = true) : ab_ev K 0 19 [x0, x1, x2, x3, x4, x5, x6, x7, x8] [.ref a] h = ab_ev K 0 20 [x0, x1, x2, some (.ref a), x4, x5, x6, x7, x8] [] h := ab_goI (op := ab_astore 3 20) (congrFun (ab_q0 K) 19) (ab_oAstore (Nat.le_of_ble_eq_true rfl) hg)
theorem ab_e0_20 {x0 x1 x2 x3 x4 x5 x6 x7 x8 : Option Value} {h : ab_H} : ab_ev K 0 20 [x0, x1, x2, x3, x4, x5, x6, x7, x8] [] h = ab_ev K 0 21 [x0, x1, x2, x3, x4, x5, x6, x7, x8] [.int (ab_I (1))] h := ab_goI (op := ab_iconst (1) 21) (congrFun (ab_q0 K) 20) rfl
theorem ab_e0_23 {x0 x1 x2 x3 x4 x5 x6 x7 x8 : Option Value} {h : ab_H} {a : Nat} (hg : ab_g [x0, x1, x2, x3, x4, x5, x6, x7, x8] 4 = true) : ab_ev K 0 23 [x0, x1, x2, x3, x4, x5, x6, x7, x8] [.ref a] h = ab_ev K 0 25 [x0, x1, x2, x3, some (.ref a), x5, x6, x7, x8] [] h := ab_goI (op := ab_astore 4 25) (congrFun (ab_q0 K) 23) (ab_oAstore (Nat.le_of_ble_eq_true rfl) hg)
theorem ab_e0_25 {x0 x1 x2 x3 x4 x5 x6 x7 x8 : Option Value} {h : ab_H} : ab_ev K 0 25 [x0, x1, x2, x3, x4, x5, x6, x7, x8] [] h = ab_ev K 0 26 [x0, x1, x2, x3, x4, x5, x6, x7, x8] [.int (ab_I (0))] h := ab_goI (op := ab_iconst (0) 26) (congrFun (ab_q0 K) 25) rfl
theorem ab_e0_26 {x0 x1 x2 x3 x4 x5 x6 x7 x8 : Option Value} {h : ab_H} {a : Int32} (hg : ab_g [x0, x1, x2, x3, x4, x5, x6, x7, x8] 5 = true) : ab_ev K 0 26 [x0, x1, x2, x3, x4, x5, x6, x7, x8] [.int a] h = ab_ev K 0 28 [x0, x1, x2, x3, x4, some (.int a), x6, x7, x8] [] h := ab_goI (op := ab_istore 5 28) (congrFun (ab_q0 K) 26) (ab_oIstore (Nat.le_of_ble_eq_true rfl) hg)
end
