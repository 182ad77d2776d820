/-! ===== the order of the books ===== -/
theorem bb_onto {n : Nat} : ∀ {f : Nat → Nat}, (∀ i, i < n → f i < n) → (∀ i j, i < n → j < n → f i = f j → i = j) → ∀ y, y < n → ∃ i, i < n ∧ f i = y := by
  induction n with
  | zero => intro f _ _ y hy; exact absurd hy (Nat.not_lt_zero y)
  | succ n ih =>
    intro f h1 h2 y hy
    by_cases hyn : f n = y
    · exact ⟨n, Nat.lt_succ_self n, hyn⟩
    have key : ∀ v, v < n → ∃ i, i < n ∧ (if f i = n then f n else f i) = v := ih (f := fun i => if f i = n then f n else f i) (fun i hi => by
      have := h1 i (by omega)
      have := h1 n (by omega)
      show (if f i = n then f n else f i) < n
      by_cases h : f i = n
      · rw [if_pos h]
        have : f n ≠ n := fun e => by have := h2 i n (by omega) (by omega) (by omega); omega
        omega
      · rw [if_neg h]; omega) (fun i j hi hj e => by
      have e : (if f i = n then f n else f i) = (if f j = n then f n else f j) := e
      by_cases ha : f i = n
      · by_cases hb : f j = n
        · exact h2 i j (by omega) (by omega) (by omega)
        · rw [if_pos ha, if_neg hb] at e
          have := h2 n j (by omega) (by omega) e
          omega
      · by_cases hb : f j = n
        · rw [if_neg ha, if_pos hb] at e
          have := h2 i n (by omega) (by omega) e
          omega
        · rw [if_neg ha, if_neg hb] at e
          exact h2 i j (by omega) (by omega) e)
    by_cases hy2 : y < n
    · obtain ⟨i, hi, e⟩ := key y hy2
      by_cases h : f i = n
      · rw [if_pos h] at e; exact absurd e hyn
      · rw [if_neg h] at e; exact ⟨i, by omega, e⟩
    · have hv : f n < n := by have := h1 n (by omega); omega
      obtain ⟨i, hi, e⟩ := key (f n) hv
      by_cases h : f i = n
      · exact ⟨i, by omega, by omega⟩
      · rw [if_neg h] at e
        have := h2 i n (by omega) (by omega) e
        omega
theorem bb_Slt {f g : Int → Int} {n k : Int} (k0 : 0 ≤ k) (k1 : k < n) (h : ∀ i, 0 ≤ i → i < n → f i ≤ g i) (hk : f k < g k) : ab_S f n < ab_S g n := by
  have hle : ∀ m, 0 ≤ m → (∀ i, 0 ≤ i → i < m → f i ≤ g i) → ab_S f m ≤ ab_S g m := fun m hm => ab_Sind (P := fun m => (∀ i, 0 ≤ i → i < m → f i ≤ g i) → ab_S f m ≤ ab_S g m) (fun _ => Int.le_refl _) (fun m hm ih hh => by
    have h1 := ih (fun i a d => hh i a (by omega))
    have h2 := hh m hm (by omega)
    rw [ab_S1 _ hm, ab_S1 _ hm]
    omega) m hm
  have hgo : ∀ d : Nat, k + 1 + d ≤ n → ab_S f (k + 1 + d) < ab_S g (k + 1 + d) := fun d => by
    induction d with
    | zero =>
      intro _
      have h1 := hle k k0 (fun i a d => h i a (by omega))
      show ab_S f (k + 1 + 0) < ab_S g (k + 1 + 0)
      rw [Int.add_zero, ab_S1 _ k0, ab_S1 _ k0]
      omega
    | succ d ih =>
      intro hd
      have h1 := ih (by omega)
      have h2 := h (k + 1 + d) (by omega) (by omega)
      have e : k + 1 + ((d + 1 : Nat) : Int) = (k + 1 + d) + 1 := by omega
      rw [e, ab_S1 _ (by omega), ab_S1 _ (by omega)]
      omega
  have h9 := hgo (n - k - 1).toNat (by omega)
  rwa [show k + 1 + ((n - k - 1).toNat : Int) = n by omega] at h9
theorem bb_ahi_rg {g : Int → Int} {a b : Int} : 0 ≤ bb_ahi g a b ∧ bb_ahi g a b ≤ 1 := by unfold bb_ahi; split <;> omega
theorem bb_ahi_1 {g : Int → Int} {a b : Int} : bb_ahi g a b = 1 ↔ ab_rwrong g b < ab_rwrong g a ∨ (ab_rwrong g a = ab_rwrong g b ∧ (ab_rmiss g b < ab_rmiss g a ∨ (ab_rmiss g a = ab_rmiss g b ∧ a < b))) := by
  unfold bb_ahi
  constructor
  · intro h
    by_cases h9 : ab_rwrong g b < ab_rwrong g a ∨ (ab_rwrong g a = ab_rwrong g b ∧ (ab_rmiss g b < ab_rmiss g a ∨ (ab_rmiss g a = ab_rmiss g b ∧ a < b)))
    · exact h9
    · rw [if_neg h9] at h; exact absurd h (by decide)
  · intro h
    exact if_pos h
/-- how many are ahead of the book j -/
def bb_rk (g : Int → Int) (j : Int) : Int := ab_S (fun o => bb_ahi g o j) (g 3)
def bb_ix (g : Int → Int) (p : Int) : Int := ab_ff (fun j => if bb_rk g j = p then 1 else 0) (g 3)
theorem bb_rk_lt {g : Int → Int} {i j : Int} (i0 : 0 ≤ i) (i1 : i < g 3) (h : bb_ahi g i j = 1) : bb_rk g i < bb_rk g j := by
  refine bb_Slt i0 i1 (fun o _ _ => ?_) ?_
  · have h1 := bb_ahi_rg (g := g) (a := o) (b := i)
    have h2 := bb_ahi_rg (g := g) (a := o) (b := j)
    by_cases h3 : bb_ahi g o i = 1
    · have h4 : bb_ahi g o j = 1 := by
        rw [bb_ahi_1] at h h3 ⊢
        omega
      rw [h3, h4]; exact Int.le_refl _
    · show bb_ahi g o i ≤ bb_ahi g o j
      omega
  · have h1 : bb_ahi g i i ≠ 1 := fun h => by rw [bb_ahi_1] at h; omega
    have h2 := bb_ahi_rg (g := g) (a := i) (b := i)
    show bb_ahi g i i < bb_ahi g i j
    omega
theorem bb_rk_ne {g : Int → Int} {i j : Int} (i0 : 0 ≤ i) (i1 : i < g 3) (j0 : 0 ≤ j) (j1 : j < g 3) (h : i < j) : bb_rk g i ≠ bb_rk g j := by
  by_cases h1 : bb_ahi g i j = 1
  · have := bb_rk_lt i0 i1 h1
    omega
  · have h2 : bb_ahi g j i = 1 := by
      rw [bb_ahi_1] at h1 ⊢
      omega
    have := bb_rk_lt j0 j1 h2
    omega
theorem bb_rk_rg {g : Int → Int} {j : Int} (j0 : 0 ≤ j) (j1 : j < g 3) : 0 ≤ bb_rk g j ∧ bb_rk g j < g 3 := by
  refine ⟨?_, ?_⟩
  · have := ab_Sge (f := fun o => bb_ahi g o j) (n := g 3) 0 (by omega) (fun i _ _ => bb_ahi_rg.1)
    unfold bb_rk
    omega
  · have h1 : bb_ahi g j j ≠ 1 := fun h => by rw [bb_ahi_1] at h; omega
    have h2 := bb_ahi_rg (g := g) (a := j) (b := j)
    have h3 := bb_Slt (f := fun o => bb_ahi g o j) (g := fun _ => 1) (n := g 3) j0 j1 (fun i _ _ => bb_ahi_rg.2) (by show bb_ahi g j j < 1; omega)
    have h4 := ab_Sle (f := fun _ => (1 : Int)) (n := g 3) 1 (by omega) (fun i _ _ => Int.le_refl _)
    unfold bb_rk
    omega
theorem bb_ix_no {g : Int → Int} {p : Int} (h0 : 0 ≤ g 3) (hp : ¬ (0 ≤ p ∧ p < g 3)) : bb_ix g p = -1 := ab_ff_no h0 (fun i a d => by
  have := bb_rk_rg a d
  show (if bb_rk g i = p then (1 : Int) else 0) ≠ 1
  rw [if_neg (by omega)]
  decide)
theorem bb_ix_ok {g : Int → Int} {p : Int} (h0 : 0 ≤ p) (h1 : p < g 3) : bb_ix g p ≠ -1 := by
  have hs := bb_onto (n := (g 3).toNat) (f := fun i => (bb_rk g i).toNat) (fun i hi => by
    have := bb_rk_rg (g := g) (j := i) (by omega) (by omega)
    show (bb_rk g i).toNat < (g 3).toNat
    omega) (fun i j hi hj e => by
    have e : (bb_rk g i).toNat = (bb_rk g j).toNat := e
    have a := bb_rk_rg (g := g) (j := i) (by omega) (by omega)
    have b := bb_rk_rg (g := g) (j := j) (by omega) (by omega)
    by_cases h : i < j
    · have := bb_rk_ne (g := g) (i := i) (j := j) (by omega) (by omega) (by omega) (by omega) (by omega)
      omega
    · by_cases h2 : j < i
      · have := bb_rk_ne (g := g) (i := j) (j := i) (by omega) (by omega) (by omega) (by omega) (by omega)
        omega
      · omega) p.toNat (by omega)
  obtain ⟨i, hi, e⟩ := hs
  have e : (bb_rk g i).toNat = p.toNat := e
  have a := bb_rk_rg (g := g) (j := i) (by omega) (by omega)
  have hq : bb_rk g i = p := by omega
  -- the first one with that rank
  intro hno
  have hall : ∀ k : Nat, (k : Int) ≤ g 3 → ∀ q, 0 ≤ q → q < (k : Int) → bb_rk g q ≠ p := fun k => by
    induction k with
    | zero => intro _ q a d; omega
    | succ k ih =>
      intro hk q q0 q1
      have hh := ih (by omega)
      by_cases hqk : q = k
      · intro hr
        have := ab_ff_at (g := fun j => if bb_rk g j = p then (1 : Int) else 0) (n := g 3) q0 (by omega) (fun i a d => by
          show (if bb_rk g i = p then (1 : Int) else 0) ≠ 1
          rw [if_neg (hh i a (by omega))]; decide) (if_pos hr)
        have h9 : bb_ix g p = q := this
        omega
      · exact hh q q0 (by omega)
  exact hall (g 3).toNat (by omega) i (by omega) (by omega) hq
def bb_wt (g : Int → Int) (j : Int) : Int := ab_rwrong g j * 97 + ab_rmiss g j
theorem bb_ahi_wt {c : Int} {g : Int → Int} (hw : bb_WS c g) {a b : Int} (a0 : 0 ≤ a) (a1 : a < g 3) (b0 : 0 ≤ b) (b1 : b < g 3) : bb_ahi g a b = if bb_wt g b < bb_wt g a ∨ (bb_wt g a = bb_wt g b ∧ a < b) then 1 else 0 := by
  have ha := ab_rmiss_rg (bb_WS_IR hw a0 a1)
  have hb := ab_rmiss_rg (bb_WS_IR hw b0 b1)
  unfold bb_ahi bb_wt
  by_cases h : ab_rwrong g b < ab_rwrong g a ∨ (ab_rwrong g a = ab_rwrong g b ∧ (ab_rmiss g b < ab_rmiss g a ∨ (ab_rmiss g a = ab_rmiss g b ∧ a < b)))
  · rw [if_pos h, if_pos (by omega)]
  · rw [if_neg h, if_neg (by omega)]
theorem bb_wt_rg {c : Int} {g : Int → Int} (hw : bb_WS c g) {a : Int} (a0 : 0 ≤ a) (a1 : a < g 3) : 0 ≤ bb_wt g a ∧ bb_wt g a ≤ 20000 := by
  have hI := bb_WS_IR hw a0 a1
  have h1 := ab_rmiss_rg hI
  have h2 := ab_rwrong_rg hI
  have h3 := ab_rall_rg hI
  unfold bb_wt
  omega
theorem bb_l119 {K : ab_Kt} {D : Nat → Int → Int} {L : Nat → Int → Int64} {z : ab_Z} {c : Int} {g : Int → Int} (hw : bb_WS c g) (hk : bb_KS D L 19 g) {p : Int} (k : Int) (k0 : 0 ≤ k) (k1 : k ≤ g 3) (hf : ∀ j, 0 ≤ j → j < k → D 499 j = bb_wt g j) : ∃ D', ab_ev K 119 2 [some (.ref 17), some (.int (ab_I p)), some (.int (ab_I k))] [] (ab_mk D L z) = ab_ev K 119 37 [some (.ref 17), some (.int (ab_I p)), some (.int (ab_I (g 3)))] [] (ab_mk D' L z) ∧ (∀ i, i ≠ 499 → D' i = D i) ∧ ∀ j, 0 ≤ j → j < g 3 → D' 499 j = bb_wt g j := by
  have hsp := ab_sp0
  have m := bb_WS_n hw
  have q2 := hk.1.1
  rw [ab_e119_2]
  by_cases hx : g 3 ≤ k
  · refine ⟨D, ?_, fun i _ => rfl, fun j a d => hf j a (by omega)⟩
    simp (discharger := first | assumption | exact True.intro | exact not_false | (refine ab_gK ?_; with_unfolding_all rfl) | exact ab_rgI (by omega) (by omega) | omega) only [q2, ab_e119_0, ab_e119_1, ab_e119_3, ab_e119_4, ab_e119_7, ab_e119_10, ab_e119_13, ab_e119_14, ab_e119_17, ab_e119_18, ab_e119_19, ab_e119_22, ab_e119_25, ab_e119_26, ab_e119_27, ab_e119_30, ab_e119_31, ab_e119_34, ab_e119_38, ab_e119_39, ab_e119_40, ab_e119_41, ab_e119_44, ab_e119_47, ab_e119_50, ab_e119_51, ab_e119_52, ab_e119_55, ab_e119_56, ab_e119_59, ab_e119_60, ab_e119_61, ab_e119_64, ab_e119_67, ab_br_t, ab_br_f, ab_re_v (ab_zz _), ab_re_n (ab_zz _)]
    rw [show k = g 3 by omega]
  · have hIB := bb_KS_IB hw hk k0 (by omega : k < g 3)
    have hbk := ab_bk_bI hsp k0 (e := k) (by omega)
    have kk := hk.2.2.2.1 k k0 (by omega)
    have hb9 := bb_WS_W hw k0 (by omega : k < g 3)
    have hwt : ab_wrong D (ab_bI 19 k) * 97 + ab_miss D (ab_bI 19 k) = bb_wt g k := by rw [bb_v_wrong kk hb9, bb_v_miss kk]; rfl
    have hrow : ∀ i, i ≠ 499 → ab_u D 499 k (bb_wt g k) i = D i := fun i hi => ab_u_row hi
    have hk' : bb_KS (ab_u D 499 k (bb_wt g k)) L 19 g := bb_KS_fr hw (fun i x y => ⟨hrow i (by omega), rfl⟩) hk
    obtain ⟨D', e1, e2, e3⟩ := bb_l119 (K := K) (z := z) (p := p) hw hk' (k + 1) (by omega) (by omega) (fun j a d => by
      rw [ab_u_if]
      by_cases h : j = k
      · rw [if_pos h, h]
      · rw [if_neg h]; exact hf j a (by omega))
    refine ⟨D', ?_, fun i hi => (e2 i hi).trans (hrow i hi), e3⟩
    simp (discharger := first | assumption | exact True.intro | exact not_false | (refine ab_gK ?_; with_unfolding_all rfl) | exact ab_rgI (by omega) (by omega) | omega) only [q2, ab_y199 hbk hIB, hwt, ab_e119_0, ab_e119_1, ab_e119_3, ab_e119_4, ab_e119_7, ab_e119_10, ab_e119_13, ab_e119_14, ab_e119_17, ab_e119_18, ab_e119_19, ab_e119_22, ab_e119_25, ab_e119_26, ab_e119_27, ab_e119_30, ab_e119_31, ab_e119_34, ab_e119_38, ab_e119_39, ab_e119_40, ab_e119_41, ab_e119_44, ab_e119_47, ab_e119_50, ab_e119_51, ab_e119_52, ab_e119_55, ab_e119_56, ab_e119_59, ab_e119_60, ab_e119_61, ab_e119_64, ab_e119_67, ab_br_t, ab_br_f, ab_re_v (ab_zz _), ab_re_n (ab_zz _)]
    exact e1
termination_by (g 3 - k).toNat
decreasing_by all_goals omega

theorem bb_l200 {K : ab_Kt} {D : Nat → Int → Int} {L : Nat → Int → Int64} {z : ab_Z} {c : Int} {g : Int → Int} (hw : bb_WS c g) (q2 : D 19 2 = g 3) (hf : ∀ j, 0 ≤ j → j < g 3 → D 499 j = bb_wt g j) {j : Int} (j0 : 0 ≤ j) (j1 : j < g 3) (k a : Int) (x4 : Option Value) (k0 : 0 ≤ k) (k1 : k ≤ g 3) (ha : a = ab_S (fun o => bb_ahi g o j) k) : ab_ev K 200 4 [some (.ref 17), some (.int (ab_I j)), some (.int (ab_I a)), some (.int (ab_I k)), x4] [] (ab_mk D L z) = some (.inl (some (.int (ab_I (bb_rk g j)))), (ab_mk D L z)) := by
  have hsp := ab_sp0
  have m := bb_WS_n hw
  rw [ab_e200_4]
  by_cases hx : g 3 ≤ k
  · simp (discharger := first | assumption | exact True.intro | exact not_false | (refine ab_gK ?_; with_unfolding_all rfl) | exact ab_rgI (by omega) (by omega) | omega) only [q2, ab_e200_0, ab_e200_1, ab_e200_2, ab_e200_3, ab_e200_5, ab_e200_6, ab_e200_9, ab_e200_12, ab_e200_15, ab_e200_16, ab_e200_19, ab_e200_20, ab_e200_21, ab_e200_22, ab_e200_25, ab_e200_26, ab_e200_27, ab_e200_30, ab_e200_31, ab_e200_34, ab_e200_35, ab_e200_37, ab_e200_39, ab_e200_42, ab_e200_43, ab_e200_46, ab_e200_47, ab_e200_48, ab_e200_49, ab_e200_52, ab_e200_53, ab_e200_54, ab_e200_57, ab_e200_58, ab_e200_59, ab_e200_62, ab_e200_65, ab_e200_68, ab_e200_71, ab_e200_72, ab_br_t, ab_br_f, ab_re_v (ab_zz _), ab_re_n (ab_zz _)]
    exact ab_fin (by rw [ha, show k = g 3 by omega]; rfl) rfl
  · have h1 := hf j j0 j1
    have h2 := hf k k0 (by omega)
    have w1 := bb_wt_rg hw j0 j1
    have w2 := bb_wt_rg hw k0 (by omega : k < g 3)
    have ht := bb_ahi_wt hw k0 (by omega : k < g 3) j0 j1
    have next : ∀ (x : Option Value) (a' : Int), a' = a + (if bb_wt g j < bb_wt g k ∨ (bb_wt g k = bb_wt g j ∧ k < j) then 1 else 0) → ab_ev K 200 4 [some (.ref 17), some (.int (ab_I j)), some (.int (ab_I a')), some (.int (ab_I (k + 1))), x] [] (ab_mk D L z) = some (.inl (some (.int (ab_I (bb_rk g j)))), (ab_mk D L z)) := fun x a' h9 => bb_l200 hw q2 hf j0 j1 (k + 1) a' x (by omega) (by omega) (by
        rw [ab_S1 _ k0, ← ha, h9]
        show _ = a + bb_ahi g k j
        rw [ht])
    by_cases c1 : bb_wt g j < bb_wt g k
    · skip
      simp (discharger := first | assumption | exact True.intro | exact not_false | (refine ab_gK ?_; with_unfolding_all rfl) | exact ab_rgI (by omega) (by omega) | omega) only [q2, h1, h2, ab_e200_0, ab_e200_1, ab_e200_2, ab_e200_3, ab_e200_5, ab_e200_6, ab_e200_9, ab_e200_12, ab_e200_15, ab_e200_16, ab_e200_19, ab_e200_20, ab_e200_21, ab_e200_22, ab_e200_25, ab_e200_26, ab_e200_27, ab_e200_30, ab_e200_31, ab_e200_34, ab_e200_35, ab_e200_37, ab_e200_39, ab_e200_42, ab_e200_43, ab_e200_46, ab_e200_47, ab_e200_48, ab_e200_49, ab_e200_52, ab_e200_53, ab_e200_54, ab_e200_57, ab_e200_58, ab_e200_59, ab_e200_62, ab_e200_65, ab_e200_68, ab_e200_71, ab_e200_72, ab_br_t, ab_br_f, ab_re_v (ab_zz _), ab_re_n (ab_zz _)]
      exact next _ _ (by rw [if_pos (.inl c1)])
    · by_cases c2 : bb_wt g k = bb_wt g j
      · by_cases c3 : k < j
        · skip
          simp (discharger := first | assumption | exact True.intro | exact not_false | (refine ab_gK ?_; with_unfolding_all rfl) | exact ab_rgI (by omega) (by omega) | omega) only [q2, h1, h2, ab_e200_0, ab_e200_1, ab_e200_2, ab_e200_3, ab_e200_5, ab_e200_6, ab_e200_9, ab_e200_12, ab_e200_15, ab_e200_16, ab_e200_19, ab_e200_20, ab_e200_21, ab_e200_22, ab_e200_25, ab_e200_26, ab_e200_27, ab_e200_30, ab_e200_31, ab_e200_34, ab_e200_35, ab_e200_37, ab_e200_39, ab_e200_42, ab_e200_43, ab_e200_46, ab_e200_47, ab_e200_48, ab_e200_49, ab_e200_52, ab_e200_53, ab_e200_54, ab_e200_57, ab_e200_58, ab_e200_59, ab_e200_62, ab_e200_65, ab_e200_68, ab_e200_71, ab_e200_72, ab_br_t, ab_br_f, ab_re_v (ab_zz _), ab_re_n (ab_zz _)]
          exact next _ _ (by rw [if_pos (.inr ⟨c2, c3⟩)])
        · skip
          simp (discharger := first | assumption | exact True.intro | exact not_false | (refine ab_gK ?_; with_unfolding_all rfl) | exact ab_rgI (by omega) (by omega) | omega) only [q2, h1, h2, ab_e200_0, ab_e200_1, ab_e200_2, ab_e200_3, ab_e200_5, ab_e200_6, ab_e200_9, ab_e200_12, ab_e200_15, ab_e200_16, ab_e200_19, ab_e200_20, ab_e200_21, ab_e200_22, ab_e200_25, ab_e200_26, ab_e200_27, ab_e200_30, ab_e200_31, ab_e200_34, ab_e200_35, ab_e200_37, ab_e200_39, ab_e200_42, ab_e200_43, ab_e200_46, ab_e200_47, ab_e200_48, ab_e200_49, ab_e200_52, ab_e200_53, ab_e200_54, ab_e200_57, ab_e200_58, ab_e200_59, ab_e200_62, ab_e200_65, ab_e200_68, ab_e200_71, ab_e200_72, ab_br_t, ab_br_f, ab_re_v (ab_zz _), ab_re_n (ab_zz _)]
          exact next _ _ (by rw [if_neg (by omega), Int.add_zero])
      · skip
        simp (discharger := first | assumption | exact True.intro | exact not_false | (refine ab_gK ?_; with_unfolding_all rfl) | exact ab_rgI (by omega) (by omega) | omega) only [q2, h1, h2, ab_e200_0, ab_e200_1, ab_e200_2, ab_e200_3, ab_e200_5, ab_e200_6, ab_e200_9, ab_e200_12, ab_e200_15, ab_e200_16, ab_e200_19, ab_e200_20, ab_e200_21, ab_e200_22, ab_e200_25, ab_e200_26, ab_e200_27, ab_e200_30, ab_e200_31, ab_e200_34, ab_e200_35, ab_e200_37, ab_e200_39, ab_e200_42, ab_e200_43, ab_e200_46, ab_e200_47, ab_e200_48, ab_e200_49, ab_e200_52, ab_e200_53, ab_e200_54, ab_e200_57, ab_e200_58, ab_e200_59, ab_e200_62, ab_e200_65, ab_e200_68, ab_e200_71, ab_e200_72, ab_br_t, ab_br_f, ab_re_v (ab_zz _), ab_re_n (ab_zz _)]
        exact next _ _ (by rw [if_neg (by omega), Int.add_zero])
termination_by (g 3 - k).toNat
decreasing_by all_goals omega

theorem bb_y200 {K : ab_Kt} {D : Nat → Int → Int} {L : Nat → Int → Int64} {z : ab_Z} {c : Int} {g : Int → Int} (hw : bb_WS c g) (q2 : D 19 2 = g 3) (hf : ∀ j, 0 ≤ j → j < g 3 → D 499 j = bb_wt g j) {j : Int} (j0 : 0 ≤ j) (j1 : j < g 3) : ab_cal K 200 [.ref 17, .int (ab_I j)] (ab_mk D L z) = some (.inl (some (.int (ab_I (bb_rk g j)))), (ab_mk D L z)) := by
  simp (discharger := first | assumption | exact True.intro | exact not_false | (refine ab_gK ?_; with_unfolding_all rfl) | exact ab_rgI (by omega) (by omega) | omega) only [ab_a200, ab_e200_0, ab_e200_1, ab_e200_2, ab_e200_3, ab_e200_5, ab_e200_6, ab_e200_9, ab_e200_12, ab_e200_15, ab_e200_16, ab_e200_19, ab_e200_20, ab_e200_21, ab_e200_22, ab_e200_25, ab_e200_26, ab_e200_27, ab_e200_30, ab_e200_31, ab_e200_34, ab_e200_35, ab_e200_37, ab_e200_39, ab_e200_42, ab_e200_43, ab_e200_46, ab_e200_47, ab_e200_48, ab_e200_49, ab_e200_52, ab_e200_53, ab_e200_54, ab_e200_57, ab_e200_58, ab_e200_59, ab_e200_62, ab_e200_65, ab_e200_68, ab_e200_71, ab_e200_72, ab_br_t, ab_br_f, ab_re_v (ab_zz _), ab_re_n (ab_zz _)]
  exact bb_l200 hw q2 hf j0 j1 0 0 _ (by omega) hw.1.1 rfl
theorem bb_l119b {K : ab_Kt} {D : Nat → Int → Int} {L : Nat → Int → Int64} {z : ab_Z} {c : Int} {g : Int → Int} (hw : bb_WS c g) (q2 : D 19 2 = g 3) (hf : ∀ j, 0 ≤ j → j < g 3 → D 499 j = bb_wt g j) {p : Int} (hp : ab_rg p) (j : Int) (j0 : 0 ≤ j) (j1 : j ≤ g 3) (hn : ∀ i, 0 ≤ i → i < j → bb_rk g i ≠ p) : ab_ev K 119 39 [some (.ref 17), some (.int (ab_I p)), some (.int (ab_I j))] [] (ab_mk D L z) = if bb_ix g p = -1 then some (.inr "java/util/NoSuchElementException", ab_mk D L (ab_zx z)) else some (.inl (some (.int (ab_I (bb_ix g p)))), (ab_mk D L z)) := by
  have hsp := ab_sp0
  have m := bb_WS_n hw
  have hg : ∀ i, 0 ≤ i → i < j → (fun j => if bb_rk g j = p then (1 : Int) else 0) i ≠ 1 := fun i a d => by
    show (if bb_rk g i = p then (1 : Int) else 0) ≠ 1
    rw [if_neg (hn i a d)]; decide
  rw [ab_e119_39]
  by_cases hx : g 3 ≤ j
  · rw [show bb_ix g p = -1 from ab_ff_no hw.1.1 (by rw [show g 3 = j by omega]; exact hg), if_pos rfl]
    simp (discharger := first | assumption | exact True.intro | exact not_false | (refine ab_gK ?_; with_unfolding_all rfl) | exact ab_rgI (by omega) (by omega) | omega) only [q2, ab_e119_0, ab_e119_1, ab_e119_2, ab_e119_3, ab_e119_4, ab_e119_7, ab_e119_10, ab_e119_13, ab_e119_14, ab_e119_17, ab_e119_18, ab_e119_19, ab_e119_22, ab_e119_25, ab_e119_26, ab_e119_27, ab_e119_30, ab_e119_31, ab_e119_34, ab_e119_37, ab_e119_38, ab_e119_40, ab_e119_41, ab_e119_44, ab_e119_47, ab_e119_50, ab_e119_51, ab_e119_52, ab_e119_55, ab_e119_56, ab_e119_59, ab_e119_60, ab_e119_61, ab_e119_64, ab_e119_67, ab_br_t, ab_br_f, ab_re_v (ab_zz _), ab_re_n (ab_zz _)]
  · have hr := bb_rk_rg j0 (by omega : j < g 3)
    have e9 := bb_y200 (K := K) (L := L) (z := z) hw q2 hf j0 (by omega : j < g 3)
    by_cases hq : bb_rk g j = p
    · have hix : bb_ix g p = j := ab_ff_at j0 (by omega) hg (if_pos hq)
      rw [hix, if_neg (by omega)]
      simp (discharger := first | assumption | exact True.intro | exact not_false | (refine ab_gK ?_; with_unfolding_all rfl) | exact ab_rgI (by omega) (by omega) | omega) only [q2, e9, ab_e119_0, ab_e119_1, ab_e119_2, ab_e119_3, ab_e119_4, ab_e119_7, ab_e119_10, ab_e119_13, ab_e119_14, ab_e119_17, ab_e119_18, ab_e119_19, ab_e119_22, ab_e119_25, ab_e119_26, ab_e119_27, ab_e119_30, ab_e119_31, ab_e119_34, ab_e119_37, ab_e119_38, ab_e119_40, ab_e119_41, ab_e119_44, ab_e119_47, ab_e119_50, ab_e119_51, ab_e119_52, ab_e119_55, ab_e119_56, ab_e119_59, ab_e119_60, ab_e119_61, ab_e119_64, ab_e119_67, ab_br_t, ab_br_f, ab_re_v (ab_zz _), ab_re_n (ab_zz _)]
    · skip
      simp (discharger := first | assumption | exact True.intro | exact not_false | (refine ab_gK ?_; with_unfolding_all rfl) | exact ab_rgI (by omega) (by omega) | omega) only [q2, e9, ab_e119_0, ab_e119_1, ab_e119_2, ab_e119_3, ab_e119_4, ab_e119_7, ab_e119_10, ab_e119_13, ab_e119_14, ab_e119_17, ab_e119_18, ab_e119_19, ab_e119_22, ab_e119_25, ab_e119_26, ab_e119_27, ab_e119_30, ab_e119_31, ab_e119_34, ab_e119_37, ab_e119_38, ab_e119_40, ab_e119_41, ab_e119_44, ab_e119_47, ab_e119_50, ab_e119_51, ab_e119_52, ab_e119_55, ab_e119_56, ab_e119_59, ab_e119_60, ab_e119_61, ab_e119_64, ab_e119_67, ab_br_t, ab_br_f, ab_re_v (ab_zz _), ab_re_n (ab_zz _)]
      exact bb_l119b hw q2 hf hp (j + 1) (by omega) (by omega) (fun i a d => by
        by_cases h : i = j
        · rw [h]; exact hq
        · exact hn i a (by omega))
termination_by (g 3 - j).toNat
decreasing_by all_goals omega
theorem bb_y119 {K : ab_Kt} {D : Nat → Int → Int} {L : Nat → Int → Int64} {z : ab_Z} {c : Int} {g : Int → Int} (hw : bb_WS c g) (hk : bb_KS D L 19 g) {p : Int} (hp : ab_rg p) : ∃ D', ab_cal K 119 [.ref 17, .int (ab_I p)] (ab_mk D L z) = (if bb_ix g p = -1 then some (.inr "java/util/NoSuchElementException", ab_mk D' L (ab_zx z)) else some (.inl (some (.int (ab_I (bb_ix g p)))), ab_mk D' L z)) ∧ ∀ i, i ≠ 499 → D' i = D i := by
  obtain ⟨D', e1, e2, e3⟩ := bb_l119 (K := K) (z := z) (p := p) hw hk 0 (by omega) hw.1.1 (fun j a d => by omega)
  have q2 : D' 19 2 = g 3 := by rw [e2 19 (by decide)]; exact hk.1.1
  have e4 := bb_l119b (K := K) (L := L) (z := z) hw q2 e3 hp 0 (by omega) hw.1.1 (fun i a d => by omega)
  refine ⟨D', ?_, e2⟩
  simp (discharger := first | assumption | exact True.intro | exact not_false | (refine ab_gK ?_; with_unfolding_all rfl) | exact ab_rgI (by omega) (by omega) | omega) only [ab_a119, e1, ab_e119_0, ab_e119_1, ab_e119_3, ab_e119_4, ab_e119_7, ab_e119_10, ab_e119_13, ab_e119_14, ab_e119_17, ab_e119_18, ab_e119_19, ab_e119_22, ab_e119_25, ab_e119_26, ab_e119_27, ab_e119_30, ab_e119_31, ab_e119_34, ab_e119_37, ab_e119_38, ab_e119_40, ab_e119_41, ab_e119_44, ab_e119_47, ab_e119_50, ab_e119_51, ab_e119_52, ab_e119_55, ab_e119_56, ab_e119_59, ab_e119_60, ab_e119_61, ab_e119_64, ab_e119_67, ab_br_t, ab_br_f, ab_re_v (ab_zz _), ab_re_n (ab_zz _)]
  exact e4

theorem bb_l29i {K : ab_Kt} {D : Nat → Int → Int} {L : Nat → Int → Int64} {z : ab_Z} {c : Int} (hw : bb_WS c (D 501)) {p j : Int} (j0 : 0 ≤ j) (j1 : j < D 501 3) (k a : Int) (k0 : 0 ≤ k) (k1 : k ≤ D 501 3) (ha : a = ab_S (fun o => bb_ahi (D 501) o j) k) : ab_ev K 29 39 [some (.ref 500), some (.int (ab_I p)), some (.int (ab_I j)), some (.int (ab_I a)), some (.int (ab_I k))] [] (ab_mk D L z) = ab_ev K 29 74 [some (.ref 500), some (.int (ab_I p)), some (.int (ab_I j)), some (.int (ab_I (bb_rk (D 501) j))), some (.int (ab_I (D 501 3)))] [] (ab_mk D L z) := by
  have m := bb_WS_n hw
  rw [ab_e29_39]
  by_cases hx : D 501 3 ≤ k
  · simp (discharger := first | assumption | exact True.intro | exact not_false | (refine ab_gK ?_; with_unfolding_all rfl) | exact ab_rgI (by omega) (by omega) | omega) only [ab_e29_0, ab_e29_1, ab_e29_2, ab_e29_3, ab_e29_6, ab_e29_9, ab_e29_10, ab_e29_13, ab_e29_14, ab_e29_17, ab_e29_20, ab_e29_21, ab_e29_22, ab_e29_23, ab_e29_24, ab_e29_25, ab_e29_26, ab_e29_29, ab_e29_30, ab_e29_31, ab_e29_34, ab_e29_35, ab_e29_36, ab_e29_37, ab_e29_41, ab_e29_42, ab_e29_45, ab_e29_46, ab_e29_47, ab_e29_50, ab_e29_51, ab_e29_52, ab_e29_54, ab_e29_55, ab_e29_58, ab_e29_61, ab_e29_62, ab_e29_65, ab_e29_66, ab_e29_67, ab_e29_68, ab_e29_71, ab_e29_75, ab_e29_76, ab_e29_79, ab_e29_80, ab_e29_81, ab_e29_84, ab_e29_87, ab_e29_88, ab_br_t, ab_br_f, ab_re_v (ab_zz _), ab_re_n (ab_zz _)]
    rw [ha, show k = D 501 3 by omega]; rfl
  · have e9 := bb_y120 (K := K) (L := L) (z := z) hw k0 (by omega : k < D 501 3) j0 j1
    have h9 := bb_ahi_rg (g := D 501) (a := k) (b := j)
    by_cases hq : bb_ahi (D 501) k j = 0
    · skip
      simp (discharger := first | assumption | exact True.intro | exact not_false | (refine ab_gK ?_; with_unfolding_all rfl) | exact ab_rgI (by omega) (by omega) | omega) only [e9, hq, ab_e29_0, ab_e29_1, ab_e29_2, ab_e29_3, ab_e29_6, ab_e29_9, ab_e29_10, ab_e29_13, ab_e29_14, ab_e29_17, ab_e29_20, ab_e29_21, ab_e29_22, ab_e29_23, ab_e29_24, ab_e29_25, ab_e29_26, ab_e29_29, ab_e29_30, ab_e29_31, ab_e29_34, ab_e29_35, ab_e29_36, ab_e29_37, ab_e29_41, ab_e29_42, ab_e29_45, ab_e29_46, ab_e29_47, ab_e29_50, ab_e29_51, ab_e29_52, ab_e29_54, ab_e29_55, ab_e29_58, ab_e29_61, ab_e29_62, ab_e29_65, ab_e29_66, ab_e29_67, ab_e29_68, ab_e29_71, ab_e29_75, ab_e29_76, ab_e29_79, ab_e29_80, ab_e29_81, ab_e29_84, ab_e29_87, ab_e29_88, ab_br_t, ab_br_f, ab_re_v (ab_zz _), ab_re_n (ab_zz _)]
      exact bb_l29i hw j0 j1 (k + 1) _ (by omega) (by omega) (by rw [ab_S1 _ k0, hq, ← ha])
    · have hq1 : bb_ahi (D 501) k j = 1 := by omega
      simp (discharger := first | assumption | exact True.intro | exact not_false | (refine ab_gK ?_; with_unfolding_all rfl) | exact ab_rgI (by omega) (by omega) | omega) only [e9, hq1, ab_e29_0, ab_e29_1, ab_e29_2, ab_e29_3, ab_e29_6, ab_e29_9, ab_e29_10, ab_e29_13, ab_e29_14, ab_e29_17, ab_e29_20, ab_e29_21, ab_e29_22, ab_e29_23, ab_e29_24, ab_e29_25, ab_e29_26, ab_e29_29, ab_e29_30, ab_e29_31, ab_e29_34, ab_e29_35, ab_e29_36, ab_e29_37, ab_e29_41, ab_e29_42, ab_e29_45, ab_e29_46, ab_e29_47, ab_e29_50, ab_e29_51, ab_e29_52, ab_e29_54, ab_e29_55, ab_e29_58, ab_e29_61, ab_e29_62, ab_e29_65, ab_e29_66, ab_e29_67, ab_e29_68, ab_e29_71, ab_e29_75, ab_e29_76, ab_e29_79, ab_e29_80, ab_e29_81, ab_e29_84, ab_e29_87, ab_e29_88, ab_br_t, ab_br_f, ab_re_v (ab_zz _), ab_re_n (ab_zz _)]
      exact bb_l29i hw j0 j1 (k + 1) _ (by omega) (by omega) (by rw [ab_S1 _ k0, hq1, ← ha])
termination_by (D 501 3 - k).toNat
decreasing_by all_goals omega
theorem bb_l29 {K : ab_Kt} {D : Nat → Int → Int} {L : Nat → Int → Int64} {z : ab_Z} {c : Int} (hw : bb_WS c (D 501)) {p : Int} (p0 : 0 ≤ p) (p1 : p < D 501 3) (j : Int) (x3 x4 : Option Value) (j0 : 0 ≤ j) (j1 : j ≤ D 501 3) (hn : ∀ i, 0 ≤ i → i < j → bb_rk (D 501) i ≠ p) : ab_ev K 29 24 [some (.ref 500), some (.int (ab_I p)), some (.int (ab_I j)), x3, x4] [] (ab_mk D L z) = some (.inl (some (.int (ab_I (bb_ix (D 501) p)))), (ab_mk D L z)) := by
  have m := bb_WS_n hw
  have hg : ∀ i, 0 ≤ i → i < j → (fun j => if bb_rk (D 501) j = p then (1 : Int) else 0) i ≠ 1 := fun i a d => by
    show (if bb_rk (D 501) i = p then (1 : Int) else 0) ≠ 1
    rw [if_neg (hn i a d)]; decide
  rw [ab_e29_24]
  by_cases hx : D 501 3 ≤ j
  · exact absurd (show bb_ix (D 501) p = -1 from ab_ff_no hw.1.1 (by rw [show D 501 3 = j by omega]; exact hg)) (bb_ix_ok p0 p1)
  · have hr := bb_rk_rg j0 (by omega : j < D 501 3)
    have e9 := bb_l29i (K := K) (L := L) (z := z) (p := p) hw j0 (by omega : j < D 501 3) 0 0 (by omega) hw.1.1 rfl
    by_cases hq : bb_rk (D 501) j = p
    · have hix : bb_ix (D 501) p = j := ab_ff_at j0 (by omega) hg (if_pos hq)
      rw [hix]
      simp (discharger := first | assumption | exact True.intro | exact not_false | (refine ab_gK ?_; with_unfolding_all rfl) | exact ab_rgI (by omega) (by omega) | omega) only [e9, ab_e29_0, ab_e29_1, ab_e29_2, ab_e29_3, ab_e29_6, ab_e29_9, ab_e29_10, ab_e29_13, ab_e29_14, ab_e29_17, ab_e29_20, ab_e29_21, ab_e29_22, ab_e29_23, ab_e29_25, ab_e29_26, ab_e29_29, ab_e29_30, ab_e29_31, ab_e29_34, ab_e29_35, ab_e29_36, ab_e29_37, ab_e29_41, ab_e29_42, ab_e29_45, ab_e29_46, ab_e29_47, ab_e29_50, ab_e29_51, ab_e29_52, ab_e29_54, ab_e29_55, ab_e29_58, ab_e29_61, ab_e29_62, ab_e29_65, ab_e29_66, ab_e29_67, ab_e29_68, ab_e29_71, ab_e29_74, ab_e29_75, ab_e29_76, ab_e29_79, ab_e29_80, ab_e29_81, ab_e29_84, ab_e29_87, ab_e29_88, ab_br_t, ab_br_f, ab_re_v (ab_zz _), ab_re_n (ab_zz _)]
    · skip
      simp (discharger := first | assumption | exact True.intro | exact not_false | (refine ab_gK ?_; with_unfolding_all rfl) | exact ab_rgI (by omega) (by omega) | omega) only [e9, ab_e29_0, ab_e29_1, ab_e29_2, ab_e29_3, ab_e29_6, ab_e29_9, ab_e29_10, ab_e29_13, ab_e29_14, ab_e29_17, ab_e29_20, ab_e29_21, ab_e29_22, ab_e29_23, ab_e29_25, ab_e29_26, ab_e29_29, ab_e29_30, ab_e29_31, ab_e29_34, ab_e29_35, ab_e29_36, ab_e29_37, ab_e29_41, ab_e29_42, ab_e29_45, ab_e29_46, ab_e29_47, ab_e29_50, ab_e29_51, ab_e29_52, ab_e29_54, ab_e29_55, ab_e29_58, ab_e29_61, ab_e29_62, ab_e29_65, ab_e29_66, ab_e29_67, ab_e29_68, ab_e29_71, ab_e29_74, ab_e29_75, ab_e29_76, ab_e29_79, ab_e29_80, ab_e29_81, ab_e29_84, ab_e29_87, ab_e29_88, ab_br_t, ab_br_f, ab_re_v (ab_zz _), ab_re_n (ab_zz _)]
      exact bb_l29 hw p0 p1 (j + 1) _ _ (by omega) (by omega) (fun i a d => by
        by_cases h : i = j
        · rw [h]; exact hq
        · exact hn i a (by omega))
termination_by (D 501 3 - j).toNat
decreasing_by all_goals omega

theorem bb_op28 {K : ab_Kt} {D : Nat → Int → Int} {L : Nat → Int → Int64} {z : ab_Z} {n : Int} (hn : n < 512) (h : bb_INV n D L z) {p : Int} (hp9r : ab_rg p) : bb_OP K n D L z 28 [.ref 17, .int (ab_I p), .ref 508] 29 [.ref 500, .int (ab_I p)] := by
  have hI := h
  obtain ⟨n1, ⟨hw, w2, w3⟩, hS9, hR9, h69, hT9, hL9, -⟩ := hI
  have n9 : 0 ≤ n ∧ n < 512 := ⟨n1.1, hn⟩
  have cm := bb_cc_mono n9
  have hsp := ab_sp0
  have hk := w2.1
  have m := bb_WS_n hw
  obtain ⟨⟨q2, q3, q4, q5, q6, q7, q8, q9⟩, kp, ka, kb, kn⟩ := id hk
  have hwE : bb_WS (bb_cc n) (bb_E D 501) := by rw [bb_E_501]; exact hw
  obtain ⟨W, e1, e2⟩ := bb_y119 (K := K) (z := z) hw hk hp9r
  have w501 : W 501 = D 501 := e2 501 (by decide)
  have wE : bb_E W 501 = D 501 := by rw [bb_E_501]; exact w501
  have w500 : ∀ k, k ≠ 7 → ∀ v, ab_u W 500 7 v 500 k = D 500 k := fun k hk v => by rw [ab_u_ne (.inr hk), e2 500 (by decide)]
  by_cases hx : 0 ≤ p ∧ p < D 501 3
  · rw [if_neg (bb_ix_ok hx.1 hx.2)] at e1
    have hwW : bb_WS (bb_cc n) (bb_E W 501) := by rw [wE]; exact hw
    have hxW : 0 ≤ p ∧ p < bb_E W 501 3 := by rw [wE]; exact hx
    have hm9 : 0 ≤ W 501 3 ∧ W 501 3 ≤ 6 := by rw [w501]; omega
    have lm := fun (L9 : Nat → Int → Int64) (z9 : ab_Z) => bb_l29 (K := K) (D := bb_E W) (L := L9) (z := z9) hwW hxW.1 hxW.2 0 none none (by omega) hwW.1.1 (fun i a d => by omega)
    refine ⟨W, ab_u L 508 0 (ab_I (bb_ix (D 501) p)).toInt64, z, bb_E W, 0, bb_ix (D 501) p, ?_, ?_, by omega, ab_u_eq, fun _ => ab_u_eq, bb_INV_q hn h (fun i a d => (ab_u_row d).trans (e2 i a)) (fun k hk => w500 k hk 0) (fun i e => ab_u_row e) (.inl rfl), Nat.le_refl _, Nat.le_refl _⟩
    · simp (discharger := first | assumption | exact True.intro | exact not_false | (refine ab_gK ?_; with_unfolding_all rfl) | exact ab_rgI (by omega) (by omega) | omega) only [ab_a28, e1, ab_e28_0, ab_e28_1, ab_e28_2, ab_e28_3, ab_e28_4, ab_e28_7, ab_e28_8, ab_e28_9, ab_e28_12, ab_e28_13, ab_e28_14, ab_e28_15, ab_e28_16, ab_br_t, ab_br_f, ab_re_v (ab_zz _), ab_re_n (ab_zz _)]
    · have hx9 : 0 ≤ p ∧ p < W 501 3 := by rw [w501]; exact hx
      simp (discharger := first | assumption | exact True.intro | exact not_false | (refine ab_gK ?_; with_unfolding_all rfl) | exact ab_rgI (by omega) (by omega) | omega) only [ab_a29, ab_y103, if_pos hx9, bb_y92_0, ab_e29_0, ab_e29_1, ab_e29_2, ab_e29_3, ab_e29_6, ab_e29_9, ab_e29_10, ab_e29_13, ab_e29_14, ab_e29_17, ab_e29_20, ab_e29_21, ab_e29_22, ab_e29_23, ab_e29_25, ab_e29_26, ab_e29_29, ab_e29_30, ab_e29_31, ab_e29_34, ab_e29_35, ab_e29_36, ab_e29_37, ab_e29_39, ab_e29_41, ab_e29_42, ab_e29_45, ab_e29_46, ab_e29_47, ab_e29_50, ab_e29_51, ab_e29_52, ab_e29_54, ab_e29_55, ab_e29_58, ab_e29_61, ab_e29_62, ab_e29_65, ab_e29_66, ab_e29_67, ab_e29_68, ab_e29_71, ab_e29_74, ab_e29_75, ab_e29_76, ab_e29_79, ab_e29_80, ab_e29_81, ab_e29_84, ab_e29_87, ab_e29_88, ab_br_t, ab_br_f, ab_re_v (ab_zz _), ab_re_n (ab_zz _)]
      rw [← wE]
      exact lm _ _
  · rw [if_pos (bb_ix_no hw.1.1 hx)] at e1
    have hm9 : 0 ≤ W 501 3 ∧ W 501 3 ≤ 6 := by rw [w501]; omega
    have hx9 : ¬ (0 ≤ p ∧ p < W 501 3) := by rw [w501]; exact hx
    refine ⟨W, L, ab_zc (ab_zx z), ab_u W 500 7 1, 1, 0, ?_, ?_, by omega, ab_u_eq, fun x => absurd x (by omega), bb_INV_q hn h (fun i a d => (ab_u_row d).trans (e2 i a)) (fun k hk => w500 k hk 1) (fun i _ => rfl) (.inr rfl), Nat.le_succ _, Nat.le_add_right _ 6⟩
    · simp (discharger := first | assumption | exact True.intro | exact not_false | (refine ab_gK ?_; with_unfolding_all rfl) | exact ab_rgI (by omega) (by omega) | omega) only [ab_a28, e1, ab_re_h (M := 28) (pc := 4) (E := "java/util/NoSuchElementException") (ph := 12) (by rfl) (ab_zzx _), ab_e28_0, ab_e28_1, ab_e28_2, ab_e28_3, ab_e28_4, ab_e28_7, ab_e28_8, ab_e28_9, ab_e28_12, ab_e28_13, ab_e28_14, ab_e28_15, ab_e28_16, ab_br_t, ab_br_f, ab_re_v (ab_zz _), ab_re_n (ab_zz _)]
    · simp (discharger := first | assumption | exact True.intro | exact not_false | (refine ab_gK ?_; with_unfolding_all rfl) | exact ab_rgI (by omega) (by omega) | omega) only [ab_a29, ab_y103, if_neg hx9, bb_y92_1, ab_e29_0, ab_e29_1, ab_e29_2, ab_e29_3, ab_e29_6, ab_e29_9, ab_e29_10, ab_e29_13, ab_e29_14, ab_e29_17, ab_e29_20, ab_e29_21, ab_e29_22, ab_e29_23, ab_e29_24, ab_e29_25, ab_e29_26, ab_e29_29, ab_e29_30, ab_e29_31, ab_e29_34, ab_e29_35, ab_e29_36, ab_e29_37, ab_e29_39, ab_e29_41, ab_e29_42, ab_e29_45, ab_e29_46, ab_e29_47, ab_e29_50, ab_e29_51, ab_e29_52, ab_e29_54, ab_e29_55, ab_e29_58, ab_e29_61, ab_e29_62, ab_e29_65, ab_e29_66, ab_e29_67, ab_e29_68, ab_e29_71, ab_e29_74, ab_e29_75, ab_e29_76, ab_e29_79, ab_e29_80, ab_e29_81, ab_e29_84, ab_e29_87, ab_e29_88, ab_br_t, ab_br_f, ab_re_v (ab_zz _), ab_re_n (ab_zz _)]

