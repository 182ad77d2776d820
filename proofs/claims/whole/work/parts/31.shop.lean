/-! ===== shops are copied ===== -/
theorem bb_sp_ap {s t : Nat} (hs : ab_sp s) (ht : ab_sp t) (h : s ≠ t) : s + 43 ≤ t ∨ t + 43 ≤ s := by
  rcases hs with rfl | ⟨k, hk, rfl⟩ <;> rcases ht with rfl | ⟨j, hj, rfl⟩
  · omega
  · omega
  · omega
  · rcases Nat.lt_trichotomy k j with h9 | h9 | h9 <;> omega
/-- the shop s' is what the shop s was -/
def bb_ES (D : Nat → Int → Int) (L : Nat → Int → Int64) (s : Nat) (D' : Nat → Int → Int) (L' : Nat → Int → Int64) (s' : Nat) : Prop := (∀ k, 2 ≤ k → k < 10 → D' s' k = D s k) ∧ (∀ e, 0 ≤ e → e < 6 → bb_EB D L (ab_bI s e) D' L' (ab_bI s' e)) ∧ ∀ p, 0 ≤ p → p < 2 → D' (ab_pI s' p) 1 = D (ab_pI s p) 1 ∧ ∀ k, 0 ≤ k → k < 3 → D' (ab_pI s' p + 1) k = D (ab_pI s p + 1) k
theorem bb_EB_fr {D D1 : Nat → Int → Int} {L L1 : Nat → Int → Int64} {b b' : Nat} {D' D2 : Nat → Int → Int} {L' L2 : Nat → Int → Int64} (h : bb_EB D L b D' L' b') (h1 : ∀ i, b ≤ i → i < b + 6 → D1 i = D i ∧ L1 i = L i) (h2 : ∀ i, b' ≤ i → i < b' + 6 → D2 i = D' i ∧ L2 i = L' i) : bb_EB D1 L1 b D2 L2 b' := by
  obtain ⟨a1, a2, a3⟩ := h
  refine ⟨fun k k0 k1 => ?_, fun s s0 s1 => ?_, fun j j0 j1 => ?_⟩
  · rw [(h1 b (by omega) (by omega)).1, (h2 b' (by omega) (by omega)).1]
    exact a1 k k0 k1
  · rw [(h1 (b + 1) (by omega) (by omega)).1, (h1 (b + 3) (by omega) (by omega)).1, (h1 (b + 4) (by omega) (by omega)).1, (h2 (b' + 1) (by omega) (by omega)).1, (h2 (b' + 2) (by omega) (by omega)).1, (h2 (b' + 3) (by omega) (by omega)).1, (h2 (b' + 4) (by omega) (by omega)).1]
    exact a2 s s0 s1
  · rw [(h1 (b + 5) (by omega) (by omega)).2, (h2 (b' + 5) (by omega) (by omega)).2]
    exact a3 j j0 j1
theorem bb_bI_e (s : Nat) (e : Int) : ab_bI s e = s + 3 + 6 * e.toNat := rfl
theorem bb_pI_e (s : Nat) (e : Int) : ab_pI s e = s + 39 + 2 * e.toNat := rfl
theorem bb_AB_fr {D D1 : Nat → Int → Int} {b : Nat} (h : bb_AB D b) (h1 : ∀ i, b ≤ i → i < b + 6 → D1 i = D i) : bb_AB D1 b := by
  intro s s0 s1
  rw [h1 (b + 1) (by omega) (by omega), h1 (b + 2) (by omega) (by omega), h1 (b + 3) (by omega) (by omega), h1 (b + 4) (by omega) (by omega)]
  exact h s s0 s1
theorem bb_l94p {K : ab_Kt} {D : Nat → Int → Int} {L : Nat → Int → Int64} {z : ab_Z} {s t : Nat} (hs : ab_sp s) (ht : ab_sp t) (hst : s ≠ t) (D0 : Nat → Int → Int) (L0 : Nat → Int → Int64) (p : Int) (p0 : 0 ≤ p) (p1 : p ≤ 2) (h1 : ∀ i, (i < s + 39 ∨ s + 43 ≤ i) → D i = D0 i) (h2 : ∀ q, 0 ≤ q → q < p → D (ab_pI s q) 1 = D0 (ab_pI t q) 1 ∧ ∀ k, 0 ≤ k → k < 3 → D (ab_pI s q + 1) k = D0 (ab_pI t q + 1) k) : ∃ D', ab_ev K 94 31 [some (.ref s), some (.ref t), some (.int (ab_I p))] [] (ab_mk D L z) = some (.inl none, ab_mk D' L z) ∧ (∀ k, 2 ≤ k → k < 10 → D' s k = D0 t k) ∧ (∀ i, (i < s + 39 ∨ s + 43 ≤ i) → i ≠ s → D' i = D0 i) ∧ ∀ q, 0 ≤ q → q < 2 → D' (ab_pI s q) 1 = D0 (ab_pI t q) 1 ∧ ∀ k, 0 ≤ k → k < 3 → D' (ab_pI s q + 1) k = D0 (ab_pI t q + 1) k := by
  have hap := bb_sp_ap hs ht hst
  have hts : t ≠ s := fun x => hst x.symm
  rw [ab_e94_31]
  by_cases hp : 2 ≤ p
  · refine ⟨ab_u (ab_u (ab_u (ab_u (ab_u (ab_u (ab_u (ab_u D s 2 (D t 2)) s 3 (D t 3)) s 4 (D t 4)) s 5 (D t 5)) s 6 (D t 6)) s 7 (D t 7)) s 8 (D t 8)) s 9 (D t 9), ?_, fun k k0 k1 => ?_, fun i i1 i2 => ?_, fun q q0 q1 => ?_⟩
    · simp (discharger := first | assumption | exact True.intro | exact not_false | (refine ab_gK ?_; with_unfolding_all rfl) | exact ab_rgI (by omega) (by omega) | omega) only [ab_u_row hts, ab_e94_0, ab_e94_1, ab_e94_2, ab_e94_3, ab_e94_5, ab_e94_8, ab_e94_9, ab_e94_12, ab_e94_13, ab_e94_14, ab_e94_15, ab_e94_18, ab_e94_19, ab_e94_20, ab_e94_23, ab_e94_26, ab_e94_29, ab_e94_30, ab_e94_32, ab_e94_33, ab_e94_36, ab_e94_37, ab_e94_40, ab_e94_41, ab_e94_42, ab_e94_43, ab_e94_46, ab_e94_47, ab_e94_48, ab_e94_51, ab_e94_54, ab_e94_57, ab_e94_58, ab_e94_59, ab_e94_62, ab_e94_65, ab_e94_66, ab_e94_67, ab_e94_70, ab_e94_73, ab_e94_74, ab_e94_75, ab_e94_78, ab_e94_81, ab_e94_82, ab_e94_83, ab_e94_86, ab_e94_89, ab_e94_90, ab_e94_91, ab_e94_94, ab_e94_97, ab_e94_98, ab_e94_99, ab_e94_102, ab_e94_105, ab_e94_106, ab_e94_107, ab_e94_110, ab_e94_113, ab_e94_114, ab_e94_115, ab_e94_118, ab_e94_121, ab_br_t, ab_br_f, ab_re_v (ab_zz _), ab_re_n (ab_zz _)]
    · rw [← h1 t (by omega)]
      have hk : k = 2 ∨ k = 3 ∨ k = 4 ∨ k = 5 ∨ k = 6 ∨ k = 7 ∨ k = 8 ∨ k = 9 := by omega
      rcases hk with rfl | rfl | rfl | rfl | rfl | rfl | rfl | rfl <;> simp [ab_u]
    · rw [ab_u_row i2, ab_u_row i2, ab_u_row i2, ab_u_row i2, ab_u_row i2, ab_u_row i2, ab_u_row i2, ab_u_row i2, h1 i i1]
    · have e1 := bb_pI_e s q
      have a1 : ab_pI s q ≠ s := by omega
      have a2 : ab_pI s q + 1 ≠ s := by omega
      rw [ab_u_row a1, ab_u_row a1, ab_u_row a1, ab_u_row a1, ab_u_row a1, ab_u_row a1, ab_u_row a1, ab_u_row a1, ab_u_row a2, ab_u_row a2, ab_u_row a2, ab_u_row a2, ab_u_row a2, ab_u_row a2, ab_u_row a2, ab_u_row a2]
      exact h2 q q0 (by omega)
  · have hps := ab_ps_pI hs p0 (by omega)
    have hpt := ab_ps_pI ht p0 (by omega)
    have e1 := bb_pI_e s p
    have e2 := bb_pI_e t p
    obtain ⟨D1, x1, x2, x3, x4⟩ := bb_y178 (K := K) (D := D) (L := L) (z := z) hps hpt (by omega)
    obtain ⟨D', y1, y2, y3, y4⟩ := bb_l94p (D := D1) (K := K) (L := L) (z := z) hs ht hst D0 L0 (p + 1) (by omega) (by omega) (fun i hi => by rw [x4 i (by omega), h1 i hi]) (fun q q0 q1 => by
      have e3 := bb_pI_e s q
      have e4 := bb_pI_e t q
      by_cases hq : q = p
      · subst hq
        refine ⟨by rw [x2, h1 _ (by omega)], fun k k0 k1 => by rw [x3 k k0 k1, h1 _ (by omega)]⟩
      · rw [x4 _ (by omega), x4 _ (by omega)]
        exact h2 q q0 (by omega))
    refine ⟨D', ?_, y2, y3, y4⟩
    simp (discharger := first | assumption | exact True.intro | exact not_false | (refine ab_gK ?_; with_unfolding_all rfl) | exact ab_rgI (by omega) (by omega) | omega) only [x1, ab_e94_0, ab_e94_1, ab_e94_2, ab_e94_3, ab_e94_5, ab_e94_8, ab_e94_9, ab_e94_12, ab_e94_13, ab_e94_14, ab_e94_15, ab_e94_18, ab_e94_19, ab_e94_20, ab_e94_23, ab_e94_26, ab_e94_29, ab_e94_30, ab_e94_32, ab_e94_33, ab_e94_36, ab_e94_37, ab_e94_40, ab_e94_41, ab_e94_42, ab_e94_43, ab_e94_46, ab_e94_47, ab_e94_48, ab_e94_51, ab_e94_54, ab_e94_57, ab_e94_58, ab_e94_59, ab_e94_62, ab_e94_65, ab_e94_66, ab_e94_67, ab_e94_70, ab_e94_73, ab_e94_74, ab_e94_75, ab_e94_78, ab_e94_81, ab_e94_82, ab_e94_83, ab_e94_86, ab_e94_89, ab_e94_90, ab_e94_91, ab_e94_94, ab_e94_97, ab_e94_98, ab_e94_99, ab_e94_102, ab_e94_105, ab_e94_106, ab_e94_107, ab_e94_110, ab_e94_113, ab_e94_114, ab_e94_115, ab_e94_118, ab_e94_121, ab_br_t, ab_br_f, ab_re_v (ab_zz _), ab_re_n (ab_zz _)]
    exact y1
termination_by (2 - p).toNat
decreasing_by omega

theorem bb_l94b {K : ab_Kt} {D : Nat → Int → Int} {L : Nat → Int → Int64} {z : ab_Z} {s t : Nat} (hs : ab_sp s) (ht : ab_sp t) (hst : s ≠ t) (D0 : Nat → Int → Int) (L0 : Nat → Int → Int64) (hA : ∀ e, 0 ≤ e → e < 6 → bb_AB D0 (ab_bI t e)) (e : Int) (e0 : 0 ≤ e) (e1 : e ≤ 6) (h1 : ∀ i, (i < s + 3 ∨ s + 3 + 6 * e.toNat ≤ i) → D i = D0 i ∧ L i = L0 i) (h2 : ∀ q, 0 ≤ q → q < e → bb_EB D0 L0 (ab_bI t q) D L (ab_bI s q)) : ∃ D' L', ab_ev K 94 2 [some (.ref s), some (.ref t), some (.int (ab_I e))] [] (ab_mk D L z) = some (.inl none, ab_mk D' L' z) ∧ bb_ES D0 L0 t D' L' s ∧ ∀ i, (i < s ∨ s + 43 ≤ i) → D' i = D0 i ∧ L' i = L0 i := by
  have hap := bb_sp_ap hs ht hst
  rw [ab_e94_2]
  by_cases he : 6 ≤ e
  · obtain ⟨D', x1, x2, x3, x4⟩ := bb_l94p (D := D) (K := K) (L := L) (z := z) hs ht hst D L 0 (by omega) (by omega) (fun i hi => rfl) (fun q q0 q1 => by omega)
    refine ⟨D', L, ?_, ⟨fun k k0 k1 => by rw [x2 k k0 k1, (h1 t (by omega)).1], fun q q0 q1 => ?_, fun q q0 q1 => ?_⟩, fun i hi => ?_⟩
    · simp (discharger := first | assumption | exact True.intro | exact not_false | (refine ab_gK ?_; with_unfolding_all rfl) | exact ab_rgI (by omega) (by omega) | omega) only [ab_e94_0, ab_e94_1, ab_e94_3, ab_e94_5, ab_e94_8, ab_e94_9, ab_e94_12, ab_e94_13, ab_e94_14, ab_e94_15, ab_e94_18, ab_e94_19, ab_e94_20, ab_e94_23, ab_e94_26, ab_e94_29, ab_e94_30, ab_e94_32, ab_e94_33, ab_e94_36, ab_e94_37, ab_e94_40, ab_e94_41, ab_e94_42, ab_e94_43, ab_e94_46, ab_e94_47, ab_e94_48, ab_e94_51, ab_e94_54, ab_e94_57, ab_e94_58, ab_e94_59, ab_e94_62, ab_e94_65, ab_e94_66, ab_e94_67, ab_e94_70, ab_e94_73, ab_e94_74, ab_e94_75, ab_e94_78, ab_e94_81, ab_e94_82, ab_e94_83, ab_e94_86, ab_e94_89, ab_e94_90, ab_e94_91, ab_e94_94, ab_e94_97, ab_e94_98, ab_e94_99, ab_e94_102, ab_e94_105, ab_e94_106, ab_e94_107, ab_e94_110, ab_e94_113, ab_e94_114, ab_e94_115, ab_e94_118, ab_e94_121, ab_br_t, ab_br_f, ab_re_v (ab_zz _), ab_re_n (ab_zz _)]
      exact x1
    · have e3 := bb_bI_e s q
      refine bb_EB_fr (h2 q q0 (by omega)) (fun i i0 i1 => ⟨rfl, rfl⟩) (fun i i0 i1 => ⟨x3 i (by omega) (by omega), rfl⟩)
    · have e3 := bb_pI_e t q
      have h := x4 q q0 q1
      rw [(h1 (ab_pI t q) (by omega)).1, (h1 (ab_pI t q + 1) (by omega)).1] at h
      exact h
    · refine ⟨?_, (h1 i (by omega)).2⟩
      rw [x3 i (by omega) (by omega), (h1 i (by omega)).1]
  · have hbs := ab_bk_bI hs e0 (by omega)
    have hbt := ab_bk_bI ht e0 (by omega)
    have e3 := bb_bI_e s e
    have e4 := bb_bI_e t e
    obtain ⟨D1, L1, x1, x2, x3⟩ := bb_y177 (K := K) (D := D) (L := L) (z := z) hbs hbt (by omega) (bb_AB_fr (hA e e0 (by omega)) (fun i i0 i1 => (h1 i (by omega)).1))
    obtain ⟨D', L', y1, y2, y3⟩ := bb_l94b (D := D1) (L := L1) (K := K) (z := z) hs ht hst D0 L0 hA (e + 1) (by omega) (by omega) (fun i hi => by
      rw [(x3 i (by omega)).1, (x3 i (by omega)).2]
      exact h1 i (by omega)) (fun q q0 q1 => by
      have e5 := bb_bI_e s q
      have e6 := bb_bI_e t q
      by_cases hq : q = e
      · subst hq
        exact bb_EB_fr x2 (fun i i0 i1 => ⟨(h1 i (by omega)).1.symm, (h1 i (by omega)).2.symm⟩) (fun i i0 i1 => ⟨rfl, rfl⟩)
      · exact bb_EB_fr (h2 q q0 (by omega)) (fun i i0 i1 => ⟨rfl, rfl⟩) (fun i i0 i1 => x3 i (by omega)))
    refine ⟨D', L', ?_, y2, y3⟩
    simp (discharger := first | assumption | exact True.intro | exact not_false | (refine ab_gK ?_; with_unfolding_all rfl) | exact ab_rgI (by omega) (by omega) | omega) only [x1, ab_e94_0, ab_e94_1, ab_e94_3, ab_e94_5, ab_e94_8, ab_e94_9, ab_e94_12, ab_e94_13, ab_e94_14, ab_e94_15, ab_e94_18, ab_e94_19, ab_e94_20, ab_e94_23, ab_e94_26, ab_e94_29, ab_e94_30, ab_e94_32, ab_e94_33, ab_e94_36, ab_e94_37, ab_e94_40, ab_e94_41, ab_e94_42, ab_e94_43, ab_e94_46, ab_e94_47, ab_e94_48, ab_e94_51, ab_e94_54, ab_e94_57, ab_e94_58, ab_e94_59, ab_e94_62, ab_e94_65, ab_e94_66, ab_e94_67, ab_e94_70, ab_e94_73, ab_e94_74, ab_e94_75, ab_e94_78, ab_e94_81, ab_e94_82, ab_e94_83, ab_e94_86, ab_e94_89, ab_e94_90, ab_e94_91, ab_e94_94, ab_e94_97, ab_e94_98, ab_e94_99, ab_e94_102, ab_e94_105, ab_e94_106, ab_e94_107, ab_e94_110, ab_e94_113, ab_e94_114, ab_e94_115, ab_e94_118, ab_e94_121, ab_br_t, ab_br_f, ab_re_v (ab_zz _), ab_re_n (ab_zz _)]
    exact y1
termination_by (6 - e).toNat
decreasing_by omega

theorem bb_y94 {K : ab_Kt} {D : Nat → Int → Int} {L : Nat → Int → Int64} {z : ab_Z} {s t : Nat} (hs : ab_sp s) (ht : ab_sp t) (hst : s ≠ t) (hA : ∀ e, 0 ≤ e → e < 6 → bb_AB D (ab_bI t e)) : ∃ D' L', ab_cal K 94 [.ref s, .ref t] (ab_mk D L z) = some (.inl none, ab_mk D' L' z) ∧ bb_ES D L t D' L' s ∧ ∀ i, (i < s ∨ s + 43 ≤ i) → D' i = D i ∧ L' i = L i := by
  obtain ⟨D', L', x1, x2, x3⟩ := bb_l94b (D := D) (L := L) (K := K) (z := z) hs ht hst D L hA 0 (by omega) (by omega) (fun i hi => ⟨rfl, rfl⟩) (fun q q0 q1 => by omega)
  refine ⟨D', L', ?_, x2, x3⟩
  simp (discharger := first | assumption | exact True.intro | exact not_false | (refine ab_gK ?_; with_unfolding_all rfl) | exact ab_rgI (by omega) (by omega) | omega) only [ab_a94, ab_e94_0, ab_e94_1, ab_e94_3, ab_e94_5, ab_e94_8, ab_e94_9, ab_e94_12, ab_e94_13, ab_e94_14, ab_e94_15, ab_e94_18, ab_e94_19, ab_e94_20, ab_e94_23, ab_e94_26, ab_e94_29, ab_e94_30, ab_e94_32, ab_e94_33, ab_e94_36, ab_e94_37, ab_e94_40, ab_e94_41, ab_e94_42, ab_e94_43, ab_e94_46, ab_e94_47, ab_e94_48, ab_e94_51, ab_e94_54, ab_e94_57, ab_e94_58, ab_e94_59, ab_e94_62, ab_e94_65, ab_e94_66, ab_e94_67, ab_e94_70, ab_e94_73, ab_e94_74, ab_e94_75, ab_e94_78, ab_e94_81, ab_e94_82, ab_e94_83, ab_e94_86, ab_e94_89, ab_e94_90, ab_e94_91, ab_e94_94, ab_e94_97, ab_e94_98, ab_e94_99, ab_e94_102, ab_e94_105, ab_e94_106, ab_e94_107, ab_e94_110, ab_e94_113, ab_e94_114, ab_e94_115, ab_e94_118, ab_e94_121, ab_br_t, ab_br_f, ab_re_v (ab_zz _), ab_re_n (ab_zz _)]
  exact x1
