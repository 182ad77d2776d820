/-! ===== the bench's changes are these: signatures, books, slips ===== -/
theorem bb_cno227 {K : ab_Kt} {D : Nat → Int → Int} {L : Nat → Int → Int64} {z : ab_Z} {c : Int} {g : Int → Int} (hw : bb_WS c g) (hk : bb_KS D L 19 g) {b f fo t : Int} (hb : ab_rg b) (hf : ab_rg f) (hfo : ab_rg fo) (ht : t = 0 ∨ t = 1) {r d : Int} (h : bb_sp_gather g b f fo t = .inl (r, d)) : ab_cal K 227 [.ref 18, .int (ab_I b), .int (ab_I f), .int (ab_I fo), .int (ab_I t)] (ab_mk D L z) = some (.inl (some (.int (ab_I (-1)))), ab_mk (bb_cref D r d) L z) := by
  have n := bb_WS_n hw
  have hsp := ab_sp0
  obtain ⟨⟨q2, q3, q4, q5, q6, q7, q8, q9⟩, kp, ka, kb, kn⟩ := id hk
  unfold bb_sp_gather at h
  split at h
  · rename_i x hh
    cases h
    simp (discharger := first | assumption | exact True.intro | exact not_false | (refine ab_gK ?_; with_unfolding_all rfl) | exact ab_rgI (by omega) (by omega) | omega) only [ab_a227, bb_y261s hw hk hb hh, ab_e227_0, ab_e227_1, ab_e227_2, ab_e227_5, ab_e227_8, ab_e227_9, ab_e227_10, ab_e227_11, ab_e227_14, ab_e227_17, ab_e227_18, ab_e227_19, ab_e227_21, ab_e227_22, ab_e227_23, ab_e227_25, ab_e227_28, ab_e227_31, ab_e227_32, ab_e227_33, ab_e227_34, ab_e227_37, ab_e227_40, ab_e227_41, ab_e227_44, ab_e227_45, ab_e227_47, ab_e227_49, ab_e227_52, ab_e227_53, ab_e227_54, ab_e227_55, ab_e227_58, ab_e227_59, ab_e227_61, ab_e227_64, ab_e227_66, ab_e227_69, ab_e227_70, ab_e227_71, ab_e227_73, ab_e227_76, ab_e227_77, ab_e227_79, ab_e227_82, ab_e227_84, ab_e227_86, ab_e227_88, ab_e227_89, ab_e227_90, ab_e227_92, ab_e227_95, ab_e227_97, ab_e227_98, ab_e227_101, ab_e227_102, ab_e227_103, ab_e227_106, ab_e227_108, ab_br_t, ab_br_f, ab_re_v (ab_zz _), ab_re_n (ab_zz _)]
  · rename_i hh
    have hm := bb_held_n hh
    have hb9 := bb_WS_W hw hm.1.1 hm.1.2
    have hn := bb_WB_n hb9
    have b0 := hm.1.1
    have b1 := hm.1.2
    have b6 : b < 6 := by omega
    have hbk := ab_bk_bI hsp b0 b6
    have eB := bb_bI_e 19 b
    have kk := kb b b0 b1
    have hIB := bb_KS_IB hw hk b0 b1
    have hI := bb_WS_IR hw b0 b1
    obtain ⟨⟨f0, f1, f2, f3, f4, f6⟩, f7, f5, -, -⟩ := id kk
    have fd := bb_nd_rg hb9 n.2.2.1.1
    split at h
    · rename_i h1
      cases h
      by_cases h2 : 1 ≤ f ∧ f ≤ 99
      · have h3 : ¬ (1 ≤ fo ∧ fo ≤ 3) := fun x => h1 ⟨h2.1, h2.2, x.1, x.2⟩
        simp (discharger := first | assumption | exact True.intro | exact not_false | (refine ab_gK ?_; with_unfolding_all rfl) | exact ab_rgI (by omega) (by omega) | omega) only [ab_a227, bb_y255, bb_y256, bb_y261n hw hk hb hh, if_pos h2, if_neg h3, ab_e227_0, ab_e227_1, ab_e227_2, ab_e227_5, ab_e227_8, ab_e227_9, ab_e227_10, ab_e227_11, ab_e227_14, ab_e227_17, ab_e227_18, ab_e227_19, ab_e227_21, ab_e227_22, ab_e227_23, ab_e227_25, ab_e227_28, ab_e227_31, ab_e227_32, ab_e227_33, ab_e227_34, ab_e227_37, ab_e227_40, ab_e227_41, ab_e227_44, ab_e227_45, ab_e227_47, ab_e227_49, ab_e227_52, ab_e227_53, ab_e227_54, ab_e227_55, ab_e227_58, ab_e227_59, ab_e227_61, ab_e227_64, ab_e227_66, ab_e227_69, ab_e227_70, ab_e227_71, ab_e227_73, ab_e227_76, ab_e227_77, ab_e227_79, ab_e227_82, ab_e227_84, ab_e227_86, ab_e227_88, ab_e227_89, ab_e227_90, ab_e227_92, ab_e227_95, ab_e227_97, ab_e227_98, ab_e227_101, ab_e227_102, ab_e227_103, ab_e227_106, ab_e227_108, ab_br_t, ab_br_f, ab_re_v (ab_zz _), ab_re_n (ab_zz _)]
      · skip
        simp (discharger := first | assumption | exact True.intro | exact not_false | (refine ab_gK ?_; with_unfolding_all rfl) | exact ab_rgI (by omega) (by omega) | omega) only [ab_a227, bb_y255, bb_y256, bb_y261n hw hk hb hh, if_neg h2, ab_e227_0, ab_e227_1, ab_e227_2, ab_e227_5, ab_e227_8, ab_e227_9, ab_e227_10, ab_e227_11, ab_e227_14, ab_e227_17, ab_e227_18, ab_e227_19, ab_e227_21, ab_e227_22, ab_e227_23, ab_e227_25, ab_e227_28, ab_e227_31, ab_e227_32, ab_e227_33, ab_e227_34, ab_e227_37, ab_e227_40, ab_e227_41, ab_e227_44, ab_e227_45, ab_e227_47, ab_e227_49, ab_e227_52, ab_e227_53, ab_e227_54, ab_e227_55, ab_e227_58, ab_e227_59, ab_e227_61, ab_e227_64, ab_e227_66, ab_e227_69, ab_e227_70, ab_e227_71, ab_e227_73, ab_e227_76, ab_e227_77, ab_e227_79, ab_e227_82, ab_e227_84, ab_e227_86, ab_e227_88, ab_e227_89, ab_e227_90, ab_e227_92, ab_e227_95, ab_e227_97, ab_e227_98, ab_e227_101, ab_e227_102, ab_e227_103, ab_e227_106, ab_e227_108, ab_br_t, ab_br_f, ab_re_v (ab_zz _), ab_re_n (ab_zz _)]
    · rename_i h1
      have h1 := Decidable.not_not.mp h1
      have h2 : 1 ≤ f ∧ f ≤ 99 := ⟨h1.1, h1.2.1⟩
      have h3 : 1 ≤ fo ∧ fo ≤ 3 := h1.2.2
      split at h
      · rename_i h4
        cases h
        simp (discharger := first | assumption | exact True.intro | exact not_false | (refine ab_gK ?_; with_unfolding_all rfl) | exact ab_rgI (by omega) (by omega) | omega) only [ab_a227, bb_y255, bb_y256, bb_y261n hw hk hb hh, if_pos h2, if_pos h3, f3, ab_e227_0, ab_e227_1, ab_e227_2, ab_e227_5, ab_e227_8, ab_e227_9, ab_e227_10, ab_e227_11, ab_e227_14, ab_e227_17, ab_e227_18, ab_e227_19, ab_e227_21, ab_e227_22, ab_e227_23, ab_e227_25, ab_e227_28, ab_e227_31, ab_e227_32, ab_e227_33, ab_e227_34, ab_e227_37, ab_e227_40, ab_e227_41, ab_e227_44, ab_e227_45, ab_e227_47, ab_e227_49, ab_e227_52, ab_e227_53, ab_e227_54, ab_e227_55, ab_e227_58, ab_e227_59, ab_e227_61, ab_e227_64, ab_e227_66, ab_e227_69, ab_e227_70, ab_e227_71, ab_e227_73, ab_e227_76, ab_e227_77, ab_e227_79, ab_e227_82, ab_e227_84, ab_e227_86, ab_e227_88, ab_e227_89, ab_e227_90, ab_e227_92, ab_e227_95, ab_e227_97, ab_e227_98, ab_e227_101, ab_e227_102, ab_e227_103, ab_e227_106, ab_e227_108, ab_br_t, ab_br_f, ab_re_v (ab_zz _), ab_re_n (ab_zz _)]
      · cases h

theorem bb_cok227 {K : ab_Kt} {D : Nat → Int → Int} {L : Nat → Int → Int64} {z : ab_Z} {c : Int} {g : Int → Int} (hw : bb_WS c g) (hk : bb_KS D L 19 g) {b f fo t : Int} (hb : ab_rg b) (hf : ab_rg f) (hfo : ab_rg fo) (ht : t = 0 ∨ t = 1) {v : Int} {g' : Int → Int} (h : bb_sp_gather g b f fo t = .inr (v, g')) : ∃ D' L', ab_cal K 227 [.ref 18, .int (ab_I b), .int (ab_I f), .int (ab_I fo), .int (ab_I t)] (ab_mk D L z) = some (.inl (some (.int (ab_I v))), ab_mk D' L' z) ∧ bb_KS D' L' 19 g' ∧ bb_FR D L D' L' := by
  have n := bb_WS_n hw
  have hsp := ab_sp0
  obtain ⟨⟨q2, q3, q4, q5, q6, q7, q8, q9⟩, kp, ka, kb, kn⟩ := id hk
  unfold bb_sp_gather at h
  split at h
  · rename_i x hh
    cases h
  · rename_i hh
    have hm := bb_held_n hh
    have hb9 := bb_WS_W hw hm.1.1 hm.1.2
    have hn := bb_WB_n hb9
    have b0 := hm.1.1
    have b1 := hm.1.2
    have b6 : b < 6 := by omega
    have hbk := ab_bk_bI hsp b0 b6
    have eB := bb_bI_e 19 b
    have kk := kb b b0 b1
    have hIB := bb_KS_IB hw hk b0 b1
    have hI := bb_WS_IR hw b0 b1
    obtain ⟨⟨f0, f1, f2, f3, f4, f6⟩, f7, f5, -, -⟩ := id kk
    have fd := bb_nd_rg hb9 n.2.2.1.1
    split at h
    · cases h
    · rename_i h1
      have h1 := Decidable.not_not.mp h1
      have h2 : 1 ≤ f ∧ f ≤ 99 := ⟨h1.1, h1.2.1⟩
      have h3 : 1 ≤ fo ∧ fo ≤ 3 := h1.2.2
      split at h
      · cases h
      · rename_i h4
        obtain ⟨hv, hg⟩ := Prod.mk.inj (Sum.inr.inj h)
        have s0 : 0 ≤ bb_R g b 3 := hn.2.2.2.1.1
        have s1 : bb_R g b 3 < 12 := by omega
        obtain ⟨D', hD'⟩ : ∃ x, x = ab_u (bb_put D (ab_bI 19 b) (bb_R g b 3) f fo t) (ab_bI 19 b) 3 (bb_R g b 3 + 1) := ⟨_, rfl⟩
        have hpb : bb_put D (ab_bI 19 b) (bb_R g b 3) f fo t (ab_bI 19 b) = D (ab_bI 19 b) := bb_put_row (by omega)
        have hrow : ∀ i, (i < ab_bI 19 b ∨ ab_bI 19 b + 5 ≤ i) → D' i = D i := fun i hi => by rw [hD', ab_u_row (by omega), bb_put_row (by omega)]
        have cB : ∀ k, D' (ab_bI 19 b) k = if k = 3 then bb_R g b 3 + 1 else D (ab_bI 19 b) k := fun k => by rw [hD', ab_u_if, hpb]
        have cS : ∀ i, 1 ≤ i → D' (ab_bI 19 b + i) = bb_put D (ab_bI 19 b) (bb_R g b 3) f fo t (ab_bI 19 b + i) := fun i hi => by rw [hD', ab_u_row (by omega)]
        have d19 : D' 19 = D 19 := hrow 19 (by omega)
        obtain ⟨G, hG⟩ : ∃ x, x = bb_gp (bb_g1 g (16 + 51 * b + 3) (bb_R g b 3 + 1)) b (bb_R g b 3) f fo t := ⟨_, rfl⟩
        have lo : ∀ k, k < 16 → G k = g k := fun k hk => by rw [hG, bb_gp_ne (by omega), bb_g1_ne (by omega)]
        have hA := bb_gp_at (g := bb_g1 g (16 + 51 * b + 3) (bb_R g b 3 + 1)) (e := b) (s := bb_R g b 3) (f := f) (fo := fo) (t := t)
        rw [← hG] at hA
        have hR : ∀ w, 0 ≤ w → w < 51 → (w < 7 + 3 * bb_R g b 3 ∨ 7 + 3 * bb_R g b 3 + 2 < w) → bb_R G b w = if w = 3 then bb_R g b 3 + 1 else bb_R g b w := fun w w0 w1 hw9 => by
          rw [hG, bb_gp_R w0 w1 s0 s1 (.inr hw9), bb_R_g1 w0 w1 (by omega) (by omega)]
          by_cases hq : w = 3
          · rw [if_pos ⟨rfl, hq⟩, if_pos hq]
          · rw [if_neg (fun x => hq x.2), if_neg hq]
        have hrun : ab_cal K 227 [.ref 18, .int (ab_I b), .int (ab_I f), .int (ab_I fo), .int (ab_I t)] (ab_mk D L z) = some (.inl (some (.int (ab_I v))), ab_mk D' L z) := by
          rw [hD', ← hv]
          simp (discharger := first | assumption | exact True.intro | exact not_false | (refine ab_gK ?_; with_unfolding_all rfl) | exact ab_rgI (by omega) (by omega) | omega) only [ab_a227, bb_y255, bb_y256, bb_y261n hw hk hb hh, if_pos h2, if_pos h3, f3, bb_y229 hbk, hpb, ab_e227_0, ab_e227_1, ab_e227_2, ab_e227_5, ab_e227_8, ab_e227_9, ab_e227_10, ab_e227_11, ab_e227_14, ab_e227_17, ab_e227_18, ab_e227_19, ab_e227_21, ab_e227_22, ab_e227_23, ab_e227_25, ab_e227_28, ab_e227_31, ab_e227_32, ab_e227_33, ab_e227_34, ab_e227_37, ab_e227_40, ab_e227_41, ab_e227_44, ab_e227_45, ab_e227_47, ab_e227_49, ab_e227_52, ab_e227_53, ab_e227_54, ab_e227_55, ab_e227_58, ab_e227_59, ab_e227_61, ab_e227_64, ab_e227_66, ab_e227_69, ab_e227_70, ab_e227_71, ab_e227_73, ab_e227_76, ab_e227_77, ab_e227_79, ab_e227_82, ab_e227_84, ab_e227_86, ab_e227_88, ab_e227_89, ab_e227_90, ab_e227_92, ab_e227_95, ab_e227_97, ab_e227_98, ab_e227_101, ab_e227_102, ab_e227_103, ab_e227_106, ab_e227_108, ab_br_t, ab_br_f, ab_re_v (ab_zz _), ab_re_n (ab_zz _)]
        refine ⟨D', L, hrun, ?_, fun i hi => ⟨hrow i (by omega), rfl⟩⟩
        rw [← hg, ← hG]
        refine bb_KS_bk hw hk b0 b1 (by rw [d19, lo 0 (by omega), lo 1 (by omega), lo 2 (by omega), lo 3 (by omega), lo 4 (by omega), lo 5 (by omega), lo 6 (by omega), lo 7 (by omega)]; exact hk.1) (fun q a d => ?_) ?_ ?_ (fun i a d e => ⟨hrow i (by omega), rfl⟩) (fun e' a d he w w0 w1 => by rw [hG, bb_gp_R w0 w1 s0 s1 (.inl he), bb_R_g1 w0 w1 (by omega) (by omega), if_neg (fun x => he x.1)]) (lo 3 (by omega)) (lo 0 (by omega))
        · have eq := bb_pI_e 19 q
          rw [hrow _ (by omega), hrow _ (by omega), lo _ (by omega)]
          refine ⟨(kp q a d).1, fun k k0 k1 => ?_⟩
          rw [lo _ (by omega)]
          exact (kp q a d).2 k k0 k1
        · intro s a d
          have h9 := ka b b0 b6 s a d
          have hp9 : 2 ≤ ab_pw fo ∧ ab_pw fo ≤ 16 := by unfold ab_pw; omega
          rw [cS 1 (by omega), cS 2 (by omega), cS 3 (by omega), cS 4 (by omega), bb_put_1, bb_put_2, bb_put_3, bb_put_4]
          by_cases hs : s = bb_R g b 3
          · rw [if_pos hs, if_pos hs, if_pos hs, if_pos hs]; omega
          · rw [if_neg hs, if_neg hs, if_neg hs, if_neg hs]; exact h9
        · have hsl : ∀ p, 0 ≤ p → p < 192 → bb_sl G b p = bb_sl g b p := fun p p0 p1 => by
            unfold bb_sl
            rw [hR _ (by omega) (by omega) (by omega), if_neg (by omega)]
          refine ⟨⟨?_, ?_, ?_, ?_, ?_, ?_⟩, ?_, ?_, fun s a d => ?_, fun p p0 p1 => ?_⟩
          · rw [cB, if_neg (by omega), hR 0 (by omega) (by omega) (by omega), if_neg (by omega)]; exact f0
          · rw [cB, if_neg (by omega), hR 1 (by omega) (by omega) (by omega), if_neg (by omega)]; exact f1
          · rw [cB, if_neg (by omega), hR 2 (by omega) (by omega) (by omega), if_neg (by omega)]; exact f2
          · rw [cB, if_pos rfl, hR 3 (by omega) (by omega) (by omega), if_pos rfl]
          · rw [cB, if_neg (by omega), hR 4 (by omega) (by omega) (by omega), if_neg (by omega)]; exact f4
          · rw [cB, if_neg (by omega), hR 5 (by omega) (by omega) (by omega), if_neg (by omega)]; exact f6
          · rw [cB, if_neg (by omega), f7, lo 0 (by omega)]
            have r5 : bb_R G b 5 = bb_R g b 5 := by rw [hR 5 (by omega) (by omega) (by omega), if_neg (by omega)]
            have r6 : bb_R G b 6 = bb_R g b 6 := by rw [hR 6 (by omega) (by omega) (by omega), if_neg (by omega)]
            unfold bb_nd
            rw [r5, r6]
          · rw [cB, if_neg (by omega), f5]
            exact ab_Scongr (fun i a d => (hsl i a d).symm)
          · rw [hR 3 (by omega) (by omega) (by omega), if_pos rfl] at d
            rw [cS 1 (by omega), cS 2 (by omega), cS 3 (by omega), cS 4 (by omega), bb_put_1, bb_put_2, bb_put_3, bb_put_4]
            by_cases hs : s = bb_R g b 3
            · subst hs
              rw [if_pos rfl, if_pos rfl, if_pos rfl, if_pos rfl, hA.1, hA.2.1, hA.2.2]
              exact ⟨rfl, rfl, rfl, rfl⟩
            · rw [if_neg hs, if_neg hs, if_neg hs, if_neg hs, hR _ (by omega) (by omega) (by omega), if_neg (by omega), hR _ (by omega) (by omega) (by omega), if_neg (by omega), hR _ (by omega) (by omega) (by omega), if_neg (by omega)]
              exact kk.2.2.2.1 s a (by omega)
          · rw [hsl p p0 p1]
            exact kk.2.2.2.2 p p0 p1

theorem bb_MV_AB {D0 D : Nat → Int → Int} {b : Nat} {p t : Int} (h : bb_MV D0 D b p t) (hA : bb_AB D0 b) (p0 : 0 ≤ p) (p1 : p < 12) (t0 : 0 ≤ t) (t1 : t < 12) : bb_AB D b := by
  intro s s0 s1
  have h1 := h.2 s s0 s1
  have hm := bb_mvi_rg (n := 12) p0 p1 t0 t1 s0 s1
  have h3 := hA _ hm.1 hm.2
  have h4 := hA s s0 s1
  have hp9 : 2 ≤ ab_pw (D (b + 3) s) ∧ ab_pw (D (b + 3) s) ≤ 16 := by unfold ab_pw; omega
  rw [h1.2.2.2]
  refine ⟨by rw [h1.1]; exact h3.1, ?_, by rw [h1.2.1]; exact h3.2.2.1, by rw [h1.2.2.1]; exact h3.2.2.2⟩
  split
  · rw [h1.1]; omega
  · exact h4.2.1
/-- the signatures behind a move, of a book and of a row G that says the same up to n -/
theorem bb_MV_s {D0 D : Nat → Int → Int} {L : Nat → Int → Int64} {b : Nat} {g G : Int → Int} {e mn p t n s : Int} (h : bb_MV D0 D b p t) (hk : bb_KB D0 L b g e mn) (hn : bb_R g e 3 ≤ 12) (p0 : 0 ≤ p) (p1 : p < bb_R g e 3) (t0 : 0 ≤ t) (t1 : t < bb_R g e 3) (s0 : 0 ≤ s) (s1 : s < n) (hn2 : n ≤ bb_R g e 3) (hG : ∀ w, 0 ≤ w → w < 3 → bb_R G e (7 + 3 * s + w) = bb_R g e (7 + 3 * bb_mvi p t s + w)) : D (b + 1) s = bb_R G e (7 + 3 * s + 0) ∧ D (b + 3) s = bb_R G e (7 + 3 * s + 1) ∧ D (b + 4) s = bb_R G e (7 + 3 * s + 2) ∧ D (b + 2) s = bb_R G e (7 + 3 * s + 0) + ab_pw (bb_R G e (7 + 3 * s + 1)) - 1 := by
  have h1 := h.2 s s0 (by omega)
  have hm := bb_mvi_rg p0 p1 t0 t1 s0 (by omega)
  have h3 := hk.2.2.2.1 _ hm.1 hm.2
  have h4 := hk.2.2.2.1 s s0 (by omega)
  rw [hG 0 (by omega) (by omega), hG 1 (by omega) (by omega), hG 2 (by omega) (by omega)]
  refine ⟨by rw [h1.1]; exact h3.1, by rw [h1.2.1]; exact h3.2.1, by rw [h1.2.2.1]; exact h3.2.2.1, ?_⟩
  rw [h1.2.2.2]
  split
  · rw [h1.1, h1.2.1, h3.1, h3.2.1]
  · rename_i hc
    have e9 : bb_mvi p t s = s := by unfold bb_mvi; omega
    rw [e9]
    exact h4.2.2.2
theorem bb_cno226 {K : ab_Kt} {D : Nat → Int → Int} {L : Nat → Int → Int64} {z : ab_Z} {c : Int} {g : Int → Int} (hw : bb_WS c g) (hk : bb_KS D L 19 g) {b p t : Int} (hb : ab_rg b) (hp : ab_rg p) (ht : ab_rg t) {r d : Int} (h : bb_sp_move g b p t = .inl (r, d)) : ab_cal K 226 [.ref 18, .int (ab_I b), .int (ab_I p), .int (ab_I t)] (ab_mk D L z) = some (.inl (some (.int (ab_I (-1)))), ab_mk (bb_cref D r d) L z) := by
  have n := bb_WS_n hw
  have hsp := ab_sp0
  obtain ⟨⟨q2, q3, q4, q5, q6, q7, q8, q9⟩, kp, ka, kb, kn⟩ := id hk
  unfold bb_sp_move at h
  split at h
  · rename_i x hh
    cases h
    simp (discharger := first | assumption | exact True.intro | exact not_false | (refine ab_gK ?_; with_unfolding_all rfl) | exact ab_rgI (by omega) (by omega) | omega) only [ab_a226, bb_y261s hw hk hb hh, ab_e226_0, ab_e226_1, ab_e226_2, ab_e226_5, ab_e226_8, ab_e226_9, ab_e226_10, ab_e226_11, ab_e226_14, ab_e226_17, ab_e226_18, ab_e226_19, ab_e226_21, ab_e226_23, ab_e226_24, ab_e226_27, ab_e226_30, ab_e226_31, ab_e226_32, ab_e226_33, ab_e226_36, ab_e226_37, ab_e226_39, ab_e226_40, ab_e226_43, ab_e226_46, ab_e226_47, ab_e226_48, ab_e226_49, ab_e226_52, ab_e226_53, ab_e226_55, ab_e226_56, ab_e226_57, ab_e226_60, ab_e226_62, ab_e226_65, ab_br_t, ab_br_f, ab_re_v (ab_zz _), ab_re_n (ab_zz _)]
  · rename_i hh
    have hm := bb_held_n hh
    have hb9 := bb_WS_W hw hm.1.1 hm.1.2
    have hn := bb_WB_n hb9
    have b0 := hm.1.1
    have b1 := hm.1.2
    have b6 : b < 6 := by omega
    have hbk := ab_bk_bI hsp b0 b6
    have eB := bb_bI_e 19 b
    have kk := kb b b0 b1
    have hIB := bb_KS_IB hw hk b0 b1
    have hI := bb_WS_IR hw b0 b1
    obtain ⟨⟨f0, f1, f2, f3, f4, f6⟩, f7, f5, -, -⟩ := id kk
    have fd := bb_nd_rg hb9 n.2.2.1.1
    have hr3 : ab_rg (D (ab_bI 19 b) 3) := ab_rgI (by omega) (by omega)
    split at h
    · rename_i h1
      cases h
      simp (discharger := first | assumption | exact True.intro | exact not_false | (refine ab_gK ?_; with_unfolding_all rfl) | exact ab_rgI (by omega) (by omega) | omega) only [ab_a226, bb_y256, bb_y251 hbk, bb_y261n hw hk hb hh, f3, if_neg h1, ab_e226_0, ab_e226_1, ab_e226_2, ab_e226_5, ab_e226_8, ab_e226_9, ab_e226_10, ab_e226_11, ab_e226_14, ab_e226_17, ab_e226_18, ab_e226_19, ab_e226_21, ab_e226_23, ab_e226_24, ab_e226_27, ab_e226_30, ab_e226_31, ab_e226_32, ab_e226_33, ab_e226_36, ab_e226_37, ab_e226_39, ab_e226_40, ab_e226_43, ab_e226_46, ab_e226_47, ab_e226_48, ab_e226_49, ab_e226_52, ab_e226_53, ab_e226_55, ab_e226_56, ab_e226_57, ab_e226_60, ab_e226_62, ab_e226_65, ab_br_t, ab_br_f, ab_re_v (ab_zz _), ab_re_n (ab_zz _)]
    · rename_i h1
      have h1 := Decidable.not_not.mp h1
      split at h
      · rename_i h2
        cases h
        simp (discharger := first | assumption | exact True.intro | exact not_false | (refine ab_gK ?_; with_unfolding_all rfl) | exact ab_rgI (by omega) (by omega) | omega) only [ab_a226, bb_y256, bb_y251 hbk, bb_y261n hw hk hb hh, f3, if_pos h1, if_neg h2, ab_e226_0, ab_e226_1, ab_e226_2, ab_e226_5, ab_e226_8, ab_e226_9, ab_e226_10, ab_e226_11, ab_e226_14, ab_e226_17, ab_e226_18, ab_e226_19, ab_e226_21, ab_e226_23, ab_e226_24, ab_e226_27, ab_e226_30, ab_e226_31, ab_e226_32, ab_e226_33, ab_e226_36, ab_e226_37, ab_e226_39, ab_e226_40, ab_e226_43, ab_e226_46, ab_e226_47, ab_e226_48, ab_e226_49, ab_e226_52, ab_e226_53, ab_e226_55, ab_e226_56, ab_e226_57, ab_e226_60, ab_e226_62, ab_e226_65, ab_br_t, ab_br_f, ab_re_v (ab_zz _), ab_re_n (ab_zz _)]
      · cases h

theorem bb_cok226 {K : ab_Kt} {D : Nat → Int → Int} {L : Nat → Int → Int64} {z : ab_Z} {c : Int} {g : Int → Int} (hw : bb_WS c g) (hk : bb_KS D L 19 g) {b p t : Int} (hb : ab_rg b) (hp : ab_rg p) (ht : ab_rg t) {v : Int} {g' : Int → Int} (h : bb_sp_move g b p t = .inr (v, g')) : ∃ D' L', ab_cal K 226 [.ref 18, .int (ab_I b), .int (ab_I p), .int (ab_I t)] (ab_mk D L z) = some (.inl (some (.int (ab_I v))), ab_mk D' L' z) ∧ bb_KS D' L' 19 g' ∧ bb_FR D L D' L' := by
  have n := bb_WS_n hw
  have hsp := ab_sp0
  obtain ⟨⟨q2, q3, q4, q5, q6, q7, q8, q9⟩, kp, ka, kb, kn⟩ := id hk
  unfold bb_sp_move at h
  split at h
  · rename_i x hh
    cases h
  · rename_i hh
    have hm := bb_held_n hh
    have hb9 := bb_WS_W hw hm.1.1 hm.1.2
    have hn := bb_WB_n hb9
    have b0 := hm.1.1
    have b1 := hm.1.2
    have b6 : b < 6 := by omega
    have hbk := ab_bk_bI hsp b0 b6
    have eB := bb_bI_e 19 b
    have kk := kb b b0 b1
    have hIB := bb_KS_IB hw hk b0 b1
    have hI := bb_WS_IR hw b0 b1
    obtain ⟨⟨f0, f1, f2, f3, f4, f6⟩, f7, f5, -, -⟩ := id kk
    have fd := bb_nd_rg hb9 n.2.2.1.1
    have hr3 : ab_rg (D (ab_bI 19 b) 3) := ab_rgI (by omega) (by omega)
    split at h
    · cases h
    · rename_i h1
      have h1 := Decidable.not_not.mp h1
      split at h
      · cases h
      · rename_i h2
        have h2 := Decidable.not_not.mp h2
        obtain ⟨hv, hg⟩ := Prod.mk.inj (Sum.inr.inj h)
        obtain ⟨D', e1, hMV⟩ := bb_y262 (K := K) (L := L) (z := z) hbk (ka b b0 b6) h1.1 (show p < 12 by omega) h2.1 (show t < 12 by omega)
        have hAB := bb_MV_AB hMV (ka b b0 b6) h1.1 (by omega) h2.1 (by omega)
        have hrow := hMV.1
        have dB : D' (ab_bI 19 b) = D (ab_bI 19 b) := hrow _ (by omega)
        have d19 : D' 19 = D 19 := hrow 19 (by omega)
        obtain ⟨G, hG⟩ : ∃ x, x = bb_mv g b p t := ⟨_, rfl⟩
        have lo : ∀ k, k < 16 → G k = g k := fun k hk => by rw [hG, bb_mv_ne (by omega)]
        have hR : ∀ w, 0 ≤ w → w < 51 → (w < 7 ∨ 43 ≤ w) → bb_R G b w = bb_R g b w := fun w w0 w1 hw9 => by rw [hG, bb_mv_R w0 w1 (.inr hw9)]
        have hsl : ∀ p, 0 ≤ p → p < 192 → bb_sl G b p = bb_sl g b p := fun p p0 p1 => by
          unfold bb_sl
          rw [hR _ (by omega) (by omega) (by omega)]
        have hKB : bb_KB D' L (ab_bI 19 b) G b (g 0) := by
          refine ⟨⟨?_, ?_, ?_, ?_, ?_, ?_⟩, ?_, ?_, fun s a d => ?_, fun p p0 p1 => ?_⟩
          · rw [dB, hR 0 (by omega) (by omega) (by omega)]; exact f0
          · rw [dB, hR 1 (by omega) (by omega) (by omega)]; exact f1
          · rw [dB, hR 2 (by omega) (by omega) (by omega)]; exact f2
          · rw [dB, hR 3 (by omega) (by omega) (by omega)]; exact f3
          · rw [dB, hR 4 (by omega) (by omega) (by omega)]; exact f4
          · rw [dB, hR 5 (by omega) (by omega) (by omega)]; exact f6
          · rw [dB, f7]
            unfold bb_nd
            rw [hR 5 (by omega) (by omega) (by omega), hR 6 (by omega) (by omega) (by omega)]
          · rw [dB, f5]
            exact ab_Scongr (fun i a d => (hsl i a d).symm)
          · rw [hR 3 (by omega) (by omega) (by omega)] at d
            exact bb_MV_s hMV kk hn.2.2.2.1.2 h1.1 h1.2 h2.1 h2.2 a d (Int.le_refl _) (fun w w0 w1 => by rw [hG]; exact bb_mv_s a (by omega) w0 w1)
          · rw [hsl p p0 p1]
            exact kk.2.2.2.2 p p0 p1
        have hWG : bb_WB G b (g 0) := by rw [hG]; exact bb_WB_mv hb9 h1.1 h1.2 h2.1 h2.2
        have hIB2 := bb_KB_IB hKB hAB hWG n.2.2.1.1
        have hwr2 := ab_y184 (K := K) (D := D') (L := L) (z := z) hbk hIB2
        rw [bb_v_wrong hKB hWG] at hwr2
        have hrun : ab_cal K 226 [.ref 18, .int (ab_I b), .int (ab_I p), .int (ab_I t)] (ab_mk D L z) = some (.inl (some (.int (ab_I v))), ab_mk D' L z) := by
          rw [← hv, ← hG]
          simp (discharger := first | assumption | exact True.intro | exact not_false | (refine ab_gK ?_; with_unfolding_all rfl) | exact ab_rgI (by omega) (by omega) | omega) only [ab_a226, bb_y256, bb_y251 hbk, bb_y261n hw hk hb hh, f3, if_pos h1, if_pos h2, e1, hwr2, ab_e226_0, ab_e226_1, ab_e226_2, ab_e226_5, ab_e226_8, ab_e226_9, ab_e226_10, ab_e226_11, ab_e226_14, ab_e226_17, ab_e226_18, ab_e226_19, ab_e226_21, ab_e226_23, ab_e226_24, ab_e226_27, ab_e226_30, ab_e226_31, ab_e226_32, ab_e226_33, ab_e226_36, ab_e226_37, ab_e226_39, ab_e226_40, ab_e226_43, ab_e226_46, ab_e226_47, ab_e226_48, ab_e226_49, ab_e226_52, ab_e226_53, ab_e226_55, ab_e226_56, ab_e226_57, ab_e226_60, ab_e226_62, ab_e226_65, ab_br_t, ab_br_f, ab_re_v (ab_zz _), ab_re_n (ab_zz _)]
        refine ⟨D', L, hrun, ?_, fun i hi => ⟨hrow i (by omega), rfl⟩⟩
        rw [← hg, ← hG]
        refine bb_KS_bk hw hk b0 b1 (by rw [d19, lo 0 (by omega), lo 1 (by omega), lo 2 (by omega), lo 3 (by omega), lo 4 (by omega), lo 5 (by omega), lo 6 (by omega), lo 7 (by omega)]; exact hk.1) (fun q a d => ?_) hAB (by rw [lo 0 (by omega)]; exact hKB) (fun i a d e => ⟨hrow i (by omega), rfl⟩) (fun e' a d he w w0 w1 => by rw [hG, bb_mv_R w0 w1 (.inl he)]) (lo 3 (by omega)) (lo 0 (by omega))
        have eq := bb_pI_e 19 q
        rw [hrow _ (by omega), hrow _ (by omega), lo _ (by omega)]
        refine ⟨(kp q a d).1, fun k k0 k1 => ?_⟩
        rw [lo _ (by omega)]
        exact (kp q a d).2 k k0 k1

theorem bb_cno225 {K : ab_Kt} {D : Nat → Int → Int} {L : Nat → Int → Int64} {z : ab_Z} {c : Int} {g : Int → Int} (hw : bb_WS c g) (hk : bb_KS D L 19 g) {b p : Int} (hb : ab_rg b) (hp : ab_rg p) {r d : Int} (h : bb_sp_drop g b p = .inl (r, d)) : ab_cal K 225 [.ref 18, .int (ab_I b), .int (ab_I p)] (ab_mk D L z) = some (.inl (some (.int (ab_I (-1)))), ab_mk (bb_cref D r d) L z) := by
  have n := bb_WS_n hw
  have hsp := ab_sp0
  obtain ⟨⟨q2, q3, q4, q5, q6, q7, q8, q9⟩, kp, ka, kb, kn⟩ := id hk
  unfold bb_sp_drop at h
  split at h
  · rename_i x hh
    cases h
    simp (discharger := first | assumption | exact True.intro | exact not_false | (refine ab_gK ?_; with_unfolding_all rfl) | exact ab_rgI (by omega) (by omega) | omega) only [ab_a225, bb_y261s hw hk hb hh, ab_e225_0, ab_e225_1, ab_e225_2, ab_e225_5, ab_e225_8, ab_e225_9, ab_e225_10, ab_e225_11, ab_e225_14, ab_e225_17, ab_e225_18, ab_e225_19, ab_e225_20, ab_e225_21, ab_e225_22, ab_e225_25, ab_e225_28, ab_e225_29, ab_e225_30, ab_e225_31, ab_e225_34, ab_e225_35, ab_e225_36, ab_e225_37, ab_e225_38, ab_e225_41, ab_e225_42, ab_e225_43, ab_e225_46, ab_e225_47, ab_e225_48, ab_e225_51, ab_e225_52, ab_e225_53, ab_e225_56, ab_e225_57, ab_e225_60, ab_br_t, ab_br_f, ab_re_v (ab_zz _), ab_re_n (ab_zz _)]
  · rename_i hh
    have hm := bb_held_n hh
    have hb9 := bb_WS_W hw hm.1.1 hm.1.2
    have hn := bb_WB_n hb9
    have b0 := hm.1.1
    have b1 := hm.1.2
    have b6 : b < 6 := by omega
    have hbk := ab_bk_bI hsp b0 b6
    have eB := bb_bI_e 19 b
    have kk := kb b b0 b1
    have hIB := bb_KS_IB hw hk b0 b1
    have hI := bb_WS_IR hw b0 b1
    obtain ⟨⟨f0, f1, f2, f3, f4, f6⟩, f7, f5, -, -⟩ := id kk
    have fd := bb_nd_rg hb9 n.2.2.1.1
    have hr3 : ab_rg (D (ab_bI 19 b) 3) := ab_rgI (by omega) (by omega)
    split at h
    · rename_i h1
      cases h
      simp (discharger := first | assumption | exact True.intro | exact not_false | (refine ab_gK ?_; with_unfolding_all rfl) | exact ab_rgI (by omega) (by omega) | omega) only [ab_a225, bb_y256, bb_y251 hbk, bb_y261n hw hk hb hh, f3, if_neg h1, ab_e225_0, ab_e225_1, ab_e225_2, ab_e225_5, ab_e225_8, ab_e225_9, ab_e225_10, ab_e225_11, ab_e225_14, ab_e225_17, ab_e225_18, ab_e225_19, ab_e225_20, ab_e225_21, ab_e225_22, ab_e225_25, ab_e225_28, ab_e225_29, ab_e225_30, ab_e225_31, ab_e225_34, ab_e225_35, ab_e225_36, ab_e225_37, ab_e225_38, ab_e225_41, ab_e225_42, ab_e225_43, ab_e225_46, ab_e225_47, ab_e225_48, ab_e225_51, ab_e225_52, ab_e225_53, ab_e225_56, ab_e225_57, ab_e225_60, ab_br_t, ab_br_f, ab_re_v (ab_zz _), ab_re_n (ab_zz _)]
    · cases h

theorem bb_cok225 {K : ab_Kt} {D : Nat → Int → Int} {L : Nat → Int → Int64} {z : ab_Z} {c : Int} {g : Int → Int} (hw : bb_WS c g) (hk : bb_KS D L 19 g) {b p : Int} (hb : ab_rg b) (hp : ab_rg p) {v : Int} {g' : Int → Int} (h : bb_sp_drop g b p = .inr (v, g')) : ∃ D' L', ab_cal K 225 [.ref 18, .int (ab_I b), .int (ab_I p)] (ab_mk D L z) = some (.inl (some (.int (ab_I v))), ab_mk D' L' z) ∧ bb_KS D' L' 19 g' ∧ bb_FR D L D' L' := by
  have n := bb_WS_n hw
  have hsp := ab_sp0
  obtain ⟨⟨q2, q3, q4, q5, q6, q7, q8, q9⟩, kp, ka, kb, kn⟩ := id hk
  unfold bb_sp_drop at h
  split at h
  · rename_i x hh
    cases h
  · rename_i hh
    have hm := bb_held_n hh
    have hb9 := bb_WS_W hw hm.1.1 hm.1.2
    have hn := bb_WB_n hb9
    have b0 := hm.1.1
    have b1 := hm.1.2
    have b6 : b < 6 := by omega
    have hbk := ab_bk_bI hsp b0 b6
    have eB := bb_bI_e 19 b
    have kk := kb b b0 b1
    have hIB := bb_KS_IB hw hk b0 b1
    have hI := bb_WS_IR hw b0 b1
    obtain ⟨⟨f0, f1, f2, f3, f4, f6⟩, f7, f5, -, -⟩ := id kk
    have fd := bb_nd_rg hb9 n.2.2.1.1
    have hr3 : ab_rg (D (ab_bI 19 b) 3) := ab_rgI (by omega) (by omega)
    split at h
    · cases h
    · rename_i h1
      have h1 := Decidable.not_not.mp h1
      obtain ⟨hv, hg⟩ := Prod.mk.inj (Sum.inr.inj h)
      have s0 : 0 ≤ bb_R g b 3 - 1 := by omega
      have s1 : bb_R g b 3 - 1 < 12 := by omega
      obtain ⟨D1, e1, hMV⟩ := bb_y262 (K := K) (L := L) (z := z) hbk (ka b b0 b6) h1.1 (show p < 12 by omega) s0 s1
      have hAB := bb_MV_AB hMV (ka b b0 b6) h1.1 (by omega) s0 s1
      have dB : D1 (ab_bI 19 b) = D (ab_bI 19 b) := hMV.1 _ (by omega)
      obtain ⟨D', hD'⟩ : ∃ x, x = ab_u D1 (ab_bI 19 b) 3 (bb_R g b 3 - 1) := ⟨_, rfl⟩
      have hrow : ∀ i, (i < ab_bI 19 b ∨ ab_bI 19 b + 5 ≤ i) → D' i = D i := fun i hi => by rw [hD', ab_u_row (by omega), hMV.1 i (by omega)]
      have cB : ∀ k, D' (ab_bI 19 b) k = if k = 3 then bb_R g b 3 - 1 else D (ab_bI 19 b) k := fun k => by rw [hD', ab_u_if, dB]
      have cS : ∀ i, 1 ≤ i → D' (ab_bI 19 b + i) = D1 (ab_bI 19 b + i) := fun i hi => by rw [hD', ab_u_row (by omega)]
      have d19 : D' 19 = D 19 := hrow 19 (by omega)
      obtain ⟨G, hG⟩ : ∃ x, x = bb_g1 (bb_gp (bb_mv g b p (bb_R g b 3 - 1)) b (bb_R g b 3 - 1) 0 0 0) (16 + 51 * b + 3) (bb_R g b 3 - 1) := ⟨_, rfl⟩
      have lo : ∀ k, k < 16 → G k = g k := fun k hk => by rw [hG, bb_g1_ne (by omega), bb_gp_ne (by omega), bb_mv_ne (by omega)]
      have hR : ∀ w, 0 ≤ w → w < 51 → (w < 7 ∨ 43 ≤ w) → bb_R G b w = if w = 3 then bb_R g b 3 - 1 else bb_R g b w := fun w w0 w1 hw9 => by
        rw [hG, bb_R_g1 w0 w1 (by omega) (by omega), bb_gp_R w0 w1 s0 s1 (.inr (by omega)), bb_mv_R w0 w1 (.inr hw9)]
        by_cases hq : w = 3
        · rw [if_pos ⟨rfl, hq⟩, if_pos hq]
        · rw [if_neg (fun x => hq x.2), if_neg hq]
      have hsl : ∀ p, 0 ≤ p → p < 192 → bb_sl G b p = bb_sl g b p := fun p p0 p1 => by
        unfold bb_sl
        rw [hR _ (by omega) (by omega) (by omega), if_neg (by omega)]
      have hrun : ab_cal K 225 [.ref 18, .int (ab_I b), .int (ab_I p)] (ab_mk D L z) = some (.inl (some (.int (ab_I v))), ab_mk D' L z) := by
        rw [hD', ← hv]
        simp (discharger := first | assumption | exact True.intro | exact not_false | (refine ab_gK ?_; with_unfolding_all rfl) | exact ab_rgI (by omega) (by omega) | omega) only [ab_a225, bb_y256, bb_y251 hbk, bb_y261n hw hk hb hh, f3, if_pos h1, e1, dB, ab_u_eq, ab_e225_0, ab_e225_1, ab_e225_2, ab_e225_5, ab_e225_8, ab_e225_9, ab_e225_10, ab_e225_11, ab_e225_14, ab_e225_17, ab_e225_18, ab_e225_19, ab_e225_20, ab_e225_21, ab_e225_22, ab_e225_25, ab_e225_28, ab_e225_29, ab_e225_30, ab_e225_31, ab_e225_34, ab_e225_35, ab_e225_36, ab_e225_37, ab_e225_38, ab_e225_41, ab_e225_42, ab_e225_43, ab_e225_46, ab_e225_47, ab_e225_48, ab_e225_51, ab_e225_52, ab_e225_53, ab_e225_56, ab_e225_57, ab_e225_60, ab_br_t, ab_br_f, ab_re_v (ab_zz _), ab_re_n (ab_zz _)]
      refine ⟨D', L, hrun, ?_, fun i hi => ⟨hrow i (by omega), rfl⟩⟩
      rw [← hg, ← hG]
      refine bb_KS_bk hw hk b0 b1 (by rw [d19, lo 0 (by omega), lo 1 (by omega), lo 2 (by omega), lo 3 (by omega), lo 4 (by omega), lo 5 (by omega), lo 6 (by omega), lo 7 (by omega)]; exact hk.1) (fun q a d => ?_) ?_ ?_ (fun i a d e => ⟨hrow i (by omega), rfl⟩) (fun e' a d he w w0 w1 => by rw [hG, bb_R_g1 w0 w1 (by omega) (by omega), if_neg (fun x => he x.1), bb_gp_R w0 w1 s0 s1 (.inl he), bb_mv_R w0 w1 (.inl he)]) (lo 3 (by omega)) (lo 0 (by omega))
      · have eq := bb_pI_e 19 q
        rw [hrow _ (by omega), hrow _ (by omega), lo _ (by omega)]
        refine ⟨(kp q a d).1, fun k k0 k1 => ?_⟩
        rw [lo _ (by omega)]
        exact (kp q a d).2 k k0 k1
      · intro s a d
        rw [cS 1 (by omega), cS 2 (by omega), cS 3 (by omega), cS 4 (by omega)]
        exact hAB s a d
      · refine ⟨⟨?_, ?_, ?_, ?_, ?_, ?_⟩, ?_, ?_, fun s a d => ?_, fun p p0 p1 => ?_⟩
        · rw [cB, if_neg (by omega), hR 0 (by omega) (by omega) (by omega), if_neg (by omega)]; exact f0
        · rw [cB, if_neg (by omega), hR 1 (by omega) (by omega) (by omega), if_neg (by omega)]; exact f1
        · rw [cB, if_neg (by omega), hR 2 (by omega) (by omega) (by omega), if_neg (by omega)]; exact f2
        · rw [cB, if_pos rfl, hR 3 (by omega) (by omega) (by omega), if_pos rfl]
        · rw [cB, if_neg (by omega), hR 4 (by omega) (by omega) (by omega), if_neg (by omega)]; exact f4
        · rw [cB, if_neg (by omega), hR 5 (by omega) (by omega) (by omega), if_neg (by omega)]; exact f6
        · rw [cB, if_neg (by omega), f7, lo 0 (by omega)]
          have r5 : bb_R G b 5 = bb_R g b 5 := by rw [hR 5 (by omega) (by omega) (by omega), if_neg (by omega)]
          have r6 : bb_R G b 6 = bb_R g b 6 := by rw [hR 6 (by omega) (by omega) (by omega), if_neg (by omega)]
          unfold bb_nd
          rw [r5, r6]
        · rw [cB, if_neg (by omega), f5]
          exact ab_Scongr (fun i a d => (hsl i a d).symm)
        · rw [hR 3 (by omega) (by omega) (by omega), if_pos rfl] at d
          rw [cS 1 (by omega), cS 2 (by omega), cS 3 (by omega), cS 4 (by omega)]
          exact bb_MV_s hMV kk hn.2.2.2.1.2 h1.1 h1.2 s0 (by omega) a d (by omega) (fun w w0 w1 => by
            rw [hG, bb_R_g1 (by omega) (by omega) (by omega) (by omega), if_neg (by omega), bb_gp_R (by omega) (by omega) s0 s1 (.inr (by omega))]
            exact bb_mv_s a (by omega) w0 w1)
        · rw [hsl p p0 p1]
          exact kk.2.2.2.2 p p0 p1

