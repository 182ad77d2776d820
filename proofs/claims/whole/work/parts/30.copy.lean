/-! ===== books are copied and moved ===== -/
theorem bb_bk_ap {b c : Nat} (hb : ab_bk b) (hc : ab_bk c) (h : b ≠ c) : b + 6 ≤ c ∨ c + 6 ≤ b := by
  obtain ⟨s, e, hs, he, rfl⟩ := hb
  obtain ⟨t, f, ht, hf, rfl⟩ := hc
  rcases hs with rfl | ⟨k, hk, rfl⟩ <;> rcases ht with rfl | ⟨j, hj, rfl⟩
  · omega
  · omega
  · omega
  · rcases Nat.lt_trichotomy k j with h9 | h9 | h9 <;> omega
theorem bb_ps_ap {b c : Nat} (hb : ab_ps b) (hc : ab_ps c) (h : b ≠ c) : b + 2 ≤ c ∨ c + 2 ≤ b := by
  obtain ⟨s, e, hs, he, rfl⟩ := hb
  obtain ⟨t, f, ht, hf, rfl⟩ := hc
  rcases hs with rfl | ⟨k, hk, rfl⟩ <;> rcases ht with rfl | ⟨j, hj, rfl⟩
  · omega
  · omega
  · omega
  · rcases Nat.lt_trichotomy k j with h9 | h9 | h9 <;> omega
def bb_put (D : Nat → Int → Int) (b : Nat) (s f fo t : Int) : Nat → Int → Int := ab_u (ab_u (ab_u (ab_u D (b + 1) s f) (b + 2) s (f + ab_pw fo - 1)) (b + 3) s fo) (b + 4) s t
theorem bb_put_1 {D : Nat → Int → Int} {b : Nat} {s f fo t j : Int} : bb_put D b s f fo t (b + 1) j = if j = s then f else D (b + 1) j := by
  unfold bb_put
  rw [ab_u_row (by omega), ab_u_row (by omega), ab_u_row (by omega), ab_u_if]
theorem bb_put_2 {D : Nat → Int → Int} {b : Nat} {s f fo t j : Int} : bb_put D b s f fo t (b + 2) j = if j = s then f + ab_pw fo - 1 else D (b + 2) j := by
  unfold bb_put
  rw [ab_u_row (by omega), ab_u_row (by omega), ab_u_if, ab_u_row (by omega)]
theorem bb_put_3 {D : Nat → Int → Int} {b : Nat} {s f fo t j : Int} : bb_put D b s f fo t (b + 3) j = if j = s then fo else D (b + 3) j := by
  unfold bb_put
  rw [ab_u_row (by omega), ab_u_if, ab_u_row (by omega), ab_u_row (by omega)]
theorem bb_put_4 {D : Nat → Int → Int} {b : Nat} {s f fo t j : Int} : bb_put D b s f fo t (b + 4) j = if j = s then t else D (b + 4) j := by
  unfold bb_put
  rw [ab_u_if, ab_u_row (by omega), ab_u_row (by omega), ab_u_row (by omega)]
theorem bb_put_row {D : Nat → Int → Int} {b i : Nat} {s f fo t : Int} (h : i < b + 1 ∨ b + 5 ≤ i) : bb_put D b s f fo t i = D i := by
  unfold bb_put
  rw [ab_u_row (by omega), ab_u_row (by omega), ab_u_row (by omega), ab_u_row (by omega)]
theorem bb_y229 {K : ab_Kt} {D : Nat → Int → Int} {L : Nat → Int → Int64} {z : ab_Z} {b : Nat} (hb : ab_bk b) {s f fo t : Int} (h0 : 0 ≤ s) (h1 : s < 12) (h2 : 0 ≤ fo) (h3 : fo ≤ 3) (ht : t = 0 ∨ t = 1) : ab_cal K 229 [.ref b, .int (ab_I s), .int (ab_I f), .int (ab_I fo), .int (ab_I t)] (ab_mk D L z) = some (.inl none, ab_mk (bb_put D b s f fo t) L z) := by
  unfold bb_put
  simp (discharger := first | assumption | exact True.intro | exact not_false | (refine ab_gK ?_; with_unfolding_all rfl) | exact ab_rgI (by omega) (by omega) | omega) only [ab_a229, ab_e229_0, ab_e229_1, ab_e229_4, ab_e229_5, ab_e229_6, ab_e229_7, ab_e229_8, ab_e229_11, ab_e229_12, ab_e229_13, ab_e229_14, ab_e229_15, ab_e229_16, ab_e229_17, ab_e229_18, ab_e229_19, ab_e229_20, ab_e229_21, ab_e229_24, ab_e229_25, ab_e229_26, ab_e229_27, ab_e229_28, ab_e229_31, ab_e229_32, ab_e229_34, ab_e229_35, ab_br_t, ab_br_f, ab_re_v (ab_zz _), ab_re_n (ab_zz _)]

/-- the book b' is what the book b was -/
def bb_EB (D : Nat → Int → Int) (L : Nat → Int → Int64) (b : Nat) (D' : Nat → Int → Int) (L' : Nat → Int → Int64) (b' : Nat) : Prop := (∀ k, 0 ≤ k → k < 8 → D' b' k = D b k) ∧ (∀ s, 0 ≤ s → s < 12 → D' (b' + 1) s = D (b + 1) s ∧ D' (b' + 3) s = D (b + 3) s ∧ D' (b' + 4) s = D (b + 4) s ∧ D' (b' + 2) s = D (b + 1) s + ab_pw (D (b + 3) s) - 1) ∧ ∀ j, 0 ≤ j → j < 3 → L' (b' + 5) j = L (b + 5) j
def bb_cL (L : Nat → Int → Int64) (b c : Nat) : Nat → Int → Int64 := fun i j => if i = b + 5 then (if 0 ≤ j ∧ j < 3 then L (c + 5) j else L i j) else L i j
theorem bb_oCopyL {nx : Nat} {ls : ab_Ls} {b c : Nat} {D : Nat → Int → Int} {L : Nat → Int → Int64} {z : ab_Z} (hb : ab_bk b) (hc : ab_bk c) : ab_acopyl nx ls [.int (ab_I 3), .int (ab_I 0), .ref (b + 5), .int (ab_I 0), .ref (c + 5)] (ab_mk D L z) = some (.inl (nx, ls, [], ab_mk D (bb_cL L b c) z)) := by
  unfold ab_acopyl
  dsimp only
  rw [show (ab_mk D L z).1 (c + 5) = some (.inl (2, 3, .inr (.inl (fun j : Nat => L (c + 5) j)))) from ab_mr_bk hc (t := 5) (by decide) (D (c + 5)) (L (c + 5)) z, show (ab_mk D L z).1 (b + 5) = some (.inl (2, 3, .inr (.inl (fun j : Nat => L (b + 5) j)))) from ab_mr_bk hb (t := 5) (by decide) (D (b + 5)) (L (b + 5)) z]
  dsimp only
  rw [show (ab_I 3).toNatClampNeg = 3 from by decide +kernel, show (ab_I 0).toNatClampNeg = 0 from by decide +kernel, if_pos (by decide +kernel)]
  have e : ab_set (ab_mk D L z) (b + 5) (.inl (2, 3, .inr (.inl (va_cpy (fun j : Nat => L (c + 5) j) (fun j : Nat => L (b + 5) j) 0 0 3)))) = ab_mk D (bb_cL L b c) z := by
    unfold ab_set ab_mk
    congr 1
    funext i
    by_cases hi : i = b + 5
    · subst hi
      rw [if_pos rfl]
      rw [ab_mr_bk hb (t := 5) (by decide) (D (b + 5)) (bb_cL L b c (b + 5)) z]
      show some (Sum.inl (2, 3, Sum.inr (Sum.inl _))) = some (Sum.inl (2, 3, Sum.inr (Sum.inl _)))
      congr 6
      funext j
      unfold bb_cL
      rw [if_pos rfl]
      by_cases hj : j < 3
      · rw [pk_cpy_in (by omega) (by omega), if_pos ⟨by omega, by omega⟩]
        congr 1
        omega
      · rw [pk_cpy_out (by omega), if_neg (by omega)]
    · rw [if_neg hi]
      have : bb_cL L b c i = L i := by
        funext j
        exact if_neg hi
      rw [this]
  rw [e]
theorem bb_e177_112 {K : ab_Kt} {x0 x1 x2 : Option Value} {b c : Nat} {D : Nat → Int → Int} {L : Nat → Int → Int64} {z : ab_Z} (hb : ab_bk b) (hc : ab_bk c) : ab_ev K 177 112 [x0, x1, x2] [.int (ab_I 3), .int (ab_I 0), .ref (b + 5), .int (ab_I 0), .ref (c + 5)] (ab_mk D L z) = ab_ev K 177 115 [x0, x1, x2] [] (ab_mk D (bb_cL L b c) z) := ab_goI (op := ab_acopyl 115) (congrFun ab_q177 112) (bb_oCopyL hb hc)
/-- the rows of a press -/
def bb_cP (D : Nat → Int → Int) (p q : Nat) : Nat → Int → Int := fun i j => if i = p + 1 then (if 0 ≤ j ∧ j < 3 then D (q + 1) j else D i j) else D i j
theorem bb_oCopyP {nx : Nat} {ls : ab_Ls} {p q : Nat} {D : Nat → Int → Int} {L : Nat → Int → Int64} {z : ab_Z} (hp : ab_ps p) (hq : ab_ps q) : ab_acopy 0 .int nx ls [.int (ab_I 3), .int (ab_I 0), .ref (p + 1), .int (ab_I 0), .ref (q + 1)] (ab_mk D L z) = some (.inl (nx, ls, [], ab_mk (bb_cP D p q) L z)) := by
  unfold ab_acopy
  dsimp only
  rw [show (ab_mk D L z).1 (q + 1) = some (.inl (0, 3, .inl (fun j : Nat => ab_I (D (q + 1) j)))) from ab_mr_ps hq (t := 1) (by decide) (D (q + 1)) (L (q + 1)) z, show (ab_mk D L z).1 (p + 1) = some (.inl (0, 3, .inl (fun j : Nat => ab_I (D (p + 1) j)))) from ab_mr_ps hp (t := 1) (by decide) (D (p + 1)) (L (p + 1)) z]
  dsimp only
  rw [show (ab_I 3).toNatClampNeg = 3 from by decide +kernel, show (ab_I 0).toNatClampNeg = 0 from by decide +kernel, if_pos ⟨rfl, rfl, by decide +kernel, by decide +kernel, by decide +kernel, by decide, by decide, by decide, rfl⟩]
  have e : ab_set (ab_mk D L z) (p + 1) (.inl (0, 3, .inl (va_cpy (fun j : Nat => ab_I (D (q + 1) j)) (fun j : Nat => ab_I (D (p + 1) j)) 0 0 3))) = ab_mk (bb_cP D p q) L z := by
    unfold ab_set ab_mk
    congr 1
    funext i
    by_cases hi : i = p + 1
    · subst hi
      rw [if_pos rfl]
      rw [ab_mr_ps hp (t := 1) (by decide) (bb_cP D p q (p + 1)) (L (p + 1)) z]
      show some (Sum.inl (0, 3, Sum.inl _)) = some (Sum.inl (0, 3, Sum.inl _))
      congr 5
      funext j
      unfold bb_cP
      rw [if_pos rfl]
      by_cases hj : j < 3
      · rw [pk_cpy_in (by omega) (by omega), if_pos ⟨by omega, by omega⟩]
        congr 2
        omega
      · rw [pk_cpy_out (by omega), if_neg (by omega)]
    · rw [if_neg hi]
      have : bb_cP D p q i = D i := by
        funext j
        exact if_neg hi
      rw [this]
  rw [e]
theorem bb_e178_11 {K : ab_Kt} {x0 x1 : Option Value} {p q : Nat} {D : Nat → Int → Int} {L : Nat → Int → Int64} {z : ab_Z} (hp : ab_ps p) (hq : ab_ps q) : ab_ev K 178 11 [x0, x1] [.int (ab_I 3), .int (ab_I 0), .ref (p + 1), .int (ab_I 0), .ref (q + 1)] (ab_mk D L z) = ab_ev K 178 14 [x0, x1] [] (ab_mk (bb_cP D p q) L z) := ab_goI (op := ab_acopy 0 .int 14) (congrFun ab_q178 11) (bb_oCopyP hp hq)
theorem bb_l177 {K : ab_Kt} {D : Nat → Int → Int} {L : Nat → Int → Int64} {z : ab_Z} {b : Nat} (hb : ab_bk b) {c : Nat} (hc : ab_bk c) (hbc : b ≠ c) (D0 : Nat → Int → Int) (hA : bb_AB D0 c) (k : Int) (k0 : 0 ≤ k) (k1 : k ≤ 12) (h1 : ∀ i, (i < b + 1 ∨ b + 5 ≤ i) → D i = D0 i) (h2 : ∀ s, 0 ≤ s → s < k → D (b + 1) s = D0 (c + 1) s ∧ D (b + 3) s = D0 (c + 3) s ∧ D (b + 4) s = D0 (c + 4) s ∧ D (b + 2) s = D0 (c + 1) s + ab_pw (D0 (c + 3) s) - 1) : ∃ D', ab_ev K 177 66 [some (.ref b), some (.ref c), some (.int (ab_I k))] [] (ab_mk D L z) = some (.inl none, ab_mk D' (bb_cL L b c) z) ∧ (∀ i, (i < b + 1 ∨ b + 5 ≤ i) → D' i = D0 i) ∧ ∀ s, 0 ≤ s → s < 12 → D' (b + 1) s = D0 (c + 1) s ∧ D' (b + 3) s = D0 (c + 3) s ∧ D' (b + 4) s = D0 (c + 4) s ∧ D' (b + 2) s = D0 (c + 1) s + ab_pw (D0 (c + 3) s) - 1 := by
  have hap := bb_bk_ap hb hc hbc
  rw [ab_e177_66]
  by_cases hk : 12 ≤ k
  · refine ⟨D, ?_, h1, fun s a d => h2 s a (by omega)⟩
    simp (discharger := first | assumption | exact True.intro | exact not_false | (refine ab_gK ?_; with_unfolding_all rfl) | exact ab_rgI (by omega) (by omega) | omega) only [ab_e177_0, ab_e177_1, ab_e177_2, ab_e177_5, ab_e177_8, ab_e177_9, ab_e177_10, ab_e177_13, ab_e177_16, ab_e177_17, ab_e177_18, ab_e177_21, ab_e177_24, ab_e177_25, ab_e177_26, ab_e177_29, ab_e177_32, ab_e177_33, ab_e177_34, ab_e177_37, ab_e177_40, ab_e177_41, ab_e177_42, ab_e177_45, ab_e177_48, ab_e177_49, ab_e177_50, ab_e177_53, ab_e177_56, ab_e177_57, ab_e177_58, ab_e177_61, ab_e177_64, ab_e177_65, ab_e177_67, ab_e177_69, ab_e177_72, ab_e177_73, ab_e177_74, ab_e177_75, ab_e177_78, ab_e177_79, ab_e177_80, ab_e177_81, ab_e177_84, ab_e177_85, ab_e177_86, ab_e177_87, ab_e177_90, ab_e177_91, ab_e177_92, ab_e177_95, ab_e177_98, ab_e177_101, ab_e177_102, ab_e177_105, ab_e177_106, ab_e177_107, ab_e177_110, ab_e177_111, bb_e177_112, ab_e177_115, ab_br_t, ab_br_f, ab_re_v (ab_zz _), ab_re_n (ab_zz _)]
  · have hs := hA k k0 (by omega)
    rw [← h1 (c + 1) (by omega), ← h1 (c + 3) (by omega), ← h1 (c + 4) (by omega)] at hs
    obtain ⟨D', e, g1, g2⟩ := bb_l177 (D := bb_put D b k (D (c + 1) k) (D (c + 3) k) (D (c + 4) k)) (K := K) (L := L) (z := z) hb hc hbc D0 hA (k + 1) (by omega) (by omega) (fun i hi => by rw [bb_put_row hi, h1 i hi]) (fun s a d => by
      rw [bb_put_1, bb_put_2, bb_put_3, bb_put_4]
      by_cases hsk : s = k
      · subst hsk
        rw [if_pos rfl, if_pos rfl, if_pos rfl, if_pos rfl, h1 (c + 1) (by omega), h1 (c + 3) (by omega), h1 (c + 4) (by omega)]
        exact ⟨rfl, rfl, rfl, rfl⟩
      · rw [if_neg hsk, if_neg hsk, if_neg hsk, if_neg hsk]
        exact h2 s a (by omega))
    refine ⟨D', ?_, g1, g2⟩
    simp (discharger := first | assumption | exact True.intro | exact not_false | (refine ab_gK ?_; with_unfolding_all rfl) | exact ab_rgI (by omega) (by omega) | omega) only [bb_y229, ab_e177_0, ab_e177_1, ab_e177_2, ab_e177_5, ab_e177_8, ab_e177_9, ab_e177_10, ab_e177_13, ab_e177_16, ab_e177_17, ab_e177_18, ab_e177_21, ab_e177_24, ab_e177_25, ab_e177_26, ab_e177_29, ab_e177_32, ab_e177_33, ab_e177_34, ab_e177_37, ab_e177_40, ab_e177_41, ab_e177_42, ab_e177_45, ab_e177_48, ab_e177_49, ab_e177_50, ab_e177_53, ab_e177_56, ab_e177_57, ab_e177_58, ab_e177_61, ab_e177_64, ab_e177_65, ab_e177_67, ab_e177_69, ab_e177_72, ab_e177_73, ab_e177_74, ab_e177_75, ab_e177_78, ab_e177_79, ab_e177_80, ab_e177_81, ab_e177_84, ab_e177_85, ab_e177_86, ab_e177_87, ab_e177_90, ab_e177_91, ab_e177_92, ab_e177_95, ab_e177_98, ab_e177_101, ab_e177_102, ab_e177_105, ab_e177_106, ab_e177_107, ab_e177_110, ab_e177_111, bb_e177_112, ab_e177_115, ab_br_t, ab_br_f, ab_re_v (ab_zz _), ab_re_n (ab_zz _)]
    exact e
termination_by (12 - k).toNat
decreasing_by omega

theorem bb_y177 {K : ab_Kt} {D : Nat → Int → Int} {L : Nat → Int → Int64} {z : ab_Z} {b : Nat} (hb : ab_bk b) {c : Nat} (hc : ab_bk c) (hbc : b ≠ c) (hA : bb_AB D c) : ∃ D' L', ab_cal K 177 [.ref b, .ref c] (ab_mk D L z) = some (.inl none, ab_mk D' L' z) ∧ bb_EB D L c D' L' b ∧ ∀ i, (i < b ∨ b + 6 ≤ i) → D' i = D i ∧ L' i = L i := by
  have hap := bb_bk_ap hb hc hbc
  have hcb : c ≠ b := fun x => hbc x.symm
  obtain ⟨D', e, g1, g2⟩ := bb_l177 (K := K) (L := L) (z := z) hb hc hbc (D := ab_u (ab_u (ab_u (ab_u (ab_u (ab_u (ab_u (ab_u D b 0 (D c 0)) b 1 (D c 1)) b 2 (D c 2)) b 3 (D c 3)) b 4 (D c 4)) b 5 (D c 5)) b 6 (D c 6)) b 7 (D c 7)) _ (fun s s0 s1 => by
    have h := hA s s0 s1
    have r : ∀ i, (i < b ∨ b + 1 ≤ i) → ab_u (ab_u (ab_u (ab_u (ab_u (ab_u (ab_u (ab_u D b 0 (D c 0)) b 1 (D c 1)) b 2 (D c 2)) b 3 (D c 3)) b 4 (D c 4)) b 5 (D c 5)) b 6 (D c 6)) b 7 (D c 7) i = D i := fun i hi => by
      rw [ab_u_row (by omega), ab_u_row (by omega), ab_u_row (by omega), ab_u_row (by omega), ab_u_row (by omega), ab_u_row (by omega), ab_u_row (by omega), ab_u_row (by omega)]
    rw [r _ (by omega), r _ (by omega), r _ (by omega), r _ (by omega)]
    exact h) 0 (by omega) (by omega) (fun i _ => rfl) (fun s a d => by omega)
  have r : ∀ i, (i < b ∨ b + 1 ≤ i) → ab_u (ab_u (ab_u (ab_u (ab_u (ab_u (ab_u (ab_u D b 0 (D c 0)) b 1 (D c 1)) b 2 (D c 2)) b 3 (D c 3)) b 4 (D c 4)) b 5 (D c 5)) b 6 (D c 6)) b 7 (D c 7) i = D i := fun i hi => by
    rw [ab_u_row (by omega), ab_u_row (by omega), ab_u_row (by omega), ab_u_row (by omega), ab_u_row (by omega), ab_u_row (by omega), ab_u_row (by omega), ab_u_row (by omega)]
  refine ⟨D', bb_cL L b c, ?_, ⟨fun k k0 k1 => ?_, fun s s0 s1 => ?_, fun j j0 j1 => ?_⟩, fun i hi => ⟨?_, ?_⟩⟩
  · simp (discharger := first | assumption | exact True.intro | exact not_false | (refine ab_gK ?_; with_unfolding_all rfl) | exact ab_rgI (by omega) (by omega) | omega) only [ab_a177, ab_u_row hcb, ab_e177_0, ab_e177_1, ab_e177_2, ab_e177_5, ab_e177_8, ab_e177_9, ab_e177_10, ab_e177_13, ab_e177_16, ab_e177_17, ab_e177_18, ab_e177_21, ab_e177_24, ab_e177_25, ab_e177_26, ab_e177_29, ab_e177_32, ab_e177_33, ab_e177_34, ab_e177_37, ab_e177_40, ab_e177_41, ab_e177_42, ab_e177_45, ab_e177_48, ab_e177_49, ab_e177_50, ab_e177_53, ab_e177_56, ab_e177_57, ab_e177_58, ab_e177_61, ab_e177_64, ab_e177_65, ab_e177_67, ab_e177_69, ab_e177_72, ab_e177_73, ab_e177_74, ab_e177_75, ab_e177_78, ab_e177_79, ab_e177_80, ab_e177_81, ab_e177_84, ab_e177_85, ab_e177_86, ab_e177_87, ab_e177_90, ab_e177_91, ab_e177_92, ab_e177_95, ab_e177_98, ab_e177_101, ab_e177_102, ab_e177_105, ab_e177_106, ab_e177_107, ab_e177_110, ab_e177_111, bb_e177_112, ab_e177_115, ab_br_t, ab_br_f, ab_re_v (ab_zz _), ab_re_n (ab_zz _)]
    exact e
  · rw [g1 b (.inl (by omega))]
    have hk : k = 0 ∨ k = 1 ∨ k = 2 ∨ k = 3 ∨ k = 4 ∨ k = 5 ∨ k = 6 ∨ k = 7 := by omega
    rcases hk with rfl | rfl | rfl | rfl | rfl | rfl | rfl | rfl <;> simp [ab_u]
  · have h := g2 s s0 s1
    rw [r (c + 1) (by omega), r (c + 3) (by omega), r (c + 4) (by omega)] at h
    exact h
  · unfold bb_cL
    rw [if_pos rfl, if_pos ⟨j0, j1⟩]
  · rw [g1 i (by omega), r i (by omega)]
  · funext j
    exact if_neg (by omega)
theorem bb_y178 {K : ab_Kt} {D : Nat → Int → Int} {L : Nat → Int → Int64} {z : ab_Z} {p q : Nat} (hp : ab_ps p) (hq : ab_ps q) (hpq : p ≠ q) : ∃ D', ab_cal K 178 [.ref p, .ref q] (ab_mk D L z) = some (.inl none, ab_mk D' L z) ∧ D' p 1 = D q 1 ∧ (∀ k, 0 ≤ k → k < 3 → D' (p + 1) k = D (q + 1) k) ∧ ∀ i, (i < p ∨ p + 2 ≤ i) → D' i = D i := by
  have hap := bb_ps_ap hp hq hpq
  have r : ∀ i, i ≠ p + 1 → bb_cP D p q i = D i := fun i hi => by
    funext j
    exact if_neg hi
  have hqr := r q (by omega)
  refine ⟨ab_u (bb_cP D p q) p 1 (D q 1), ?_, ab_u_eq, fun k k0 k1 => ?_, fun i hi => ?_⟩
  · simp (discharger := first | assumption | exact True.intro | exact not_false | (refine ab_gK ?_; with_unfolding_all rfl) | exact ab_rgI (by omega) (by omega) | omega) only [ab_a178, hqr, ab_e178_0, ab_e178_1, ab_e178_4, ab_e178_5, ab_e178_6, ab_e178_9, ab_e178_10, bb_e178_11, ab_e178_14, ab_e178_15, ab_e178_16, ab_e178_19, ab_e178_22, ab_br_t, ab_br_f, ab_re_v (ab_zz _), ab_re_n (ab_zz _)]
  · rw [ab_u_row (by omega)]
    unfold bb_cP
    rw [if_pos rfl, if_pos ⟨k0, k1⟩]
  · rw [ab_u_row (by omega), r i (by omega)]
