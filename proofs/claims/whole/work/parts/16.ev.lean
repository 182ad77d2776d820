/-! ===== the run without fuel, and its equation ===== -/
theorem ab_run_mono (P : Nat → Nat → ab_Op) (mx : Nat → Nat) (hn : Nat → Nat → String → Option (Option Nat)) : ∀ (f M pc : Nat) (ls : ab_Ls) (st : List Value) (h : ab_H) (r : ab_O × ab_H), ab_run P mx hn f M pc ls st h = some r → ab_run P mx hn (f + 1) M pc ls st h = some r := by
  intro f
  induction f with
  | zero => intro M pc ls st h r hr; cases hr
  | succ f ih =>
    intro M pc ls st h r hr
    rw [ab_run] at hr ⊢
    cases hP : P M pc ls st h with
    | none => rw [hP] at hr; cases hr
    | some x =>
      rw [hP] at hr
      rcases x with ⟨pc', ls', st', h'⟩ | r' | ⟨M', as, rest, pc'⟩
      · exact ih _ _ _ _ _ _ hr
      · exact hr
      · dsimp only at hr ⊢
        split at hr
        · rename_i ha
          rw [if_pos ha]
          cases hc : ab_run P mx hn f M' 0 (ab_ent (mx M') as) [] h with
          | none => rw [hc] at hr; cases hr
          | some y =>
            rw [hc] at hr
            rw [ih _ _ _ _ _ _ hc]
            rcases y with ⟨v | E, h1⟩
            · dsimp only at hr ⊢
              split at hr
              · rename_i hm
                rw [if_pos hm]
                exact ih _ _ _ _ _ _ hr
              · cases hr
            · dsimp only at hr ⊢
              split at hr
              · rename_i hm
                rw [if_pos hm]
                cases hh : hn M pc E with
                | none => rw [hh] at hr; cases hr
                | some z =>
                  rw [hh] at hr
                  cases z with
                  | none => exact hr
                  | some ph => exact ih _ _ _ _ _ _ hr
              · cases hr
        · cases hr
theorem ab_run_le (P : Nat → Nat → ab_Op) (mx : Nat → Nat) (hn : Nat → Nat → String → Option (Option Nat)) {f g M pc : Nat} {ls : ab_Ls} {st : List Value} {h : ab_H} {r : ab_O × ab_H} (hfg : f ≤ g) (hr : ab_run P mx hn f M pc ls st h = some r) : ab_run P mx hn g M pc ls st h = some r := by
  induction hfg with
  | refl => exact hr
  | step _ ih => exact ab_run_mono P mx hn _ _ _ _ _ _ _ ih
noncomputable def ab_ev (K : ab_Kt) (M pc : Nat) (ls : ab_Ls) (st : List Value) (h : ab_H) : Option (ab_O × ab_H) :=
  @dite _ (∃ r f, ab_run (ab_P9 K) ab_mx ab_hn f M pc ls st h = some r) (Classical.propDecidable _) (fun x => some (Classical.choose x)) (fun _ => none)
theorem ab_ev_iff {K : ab_Kt} {M pc : Nat} {ls : ab_Ls} {st : List Value} {h : ab_H} {r : ab_O × ab_H} : ab_ev K M pc ls st h = some r ↔ ∃ f, ab_run (ab_P9 K) ab_mx ab_hn f M pc ls st h = some r := by
  unfold ab_ev
  by_cases x : ∃ r f, ab_run (ab_P9 K) ab_mx ab_hn f M pc ls st h = some r
  · rw [dif_pos x]
    have hc := Classical.choose_spec x
    constructor
    · intro e
      cases e
      exact hc
    · rintro ⟨f, hf⟩
      obtain ⟨g, hg⟩ := hc
      have h1 := ab_run_le _ _ _ (Nat.le_max_left f g) hf
      have h2 := ab_run_le _ _ _ (Nat.le_max_right f g) hg
      rw [h1] at h2
      exact h2.symm
  · rw [dif_neg x]
    constructor
    · intro e; cases e
    · rintro ⟨f, hf⟩
      exact absurd ⟨r, f, hf⟩ x
/-- the counters do not fall -/
def ab_le (h h1 : ab_H) : Bool := decide (h.2.2.1 ≤ h1.2.2.1) && decide (h.2.2.2 ≤ h1.2.2.2)
noncomputable def ab_cal (K : ab_Kt) (M : Nat) (as : List Value) (h : ab_H) : Option (ab_O × ab_H) := if ab_a1 (ab_mx M) as = true then ab_ev K M 0 (ab_ent (ab_mx M) as) [] h else none
noncomputable def ab_re (K : ab_Kt) (M pc : Nat) (ls : ab_Ls) (rest : List Value) (pc' : Nat) (h : ab_H) : Option (ab_O × ab_H) → Option (ab_O × ab_H)
  | none => none
  | some (.inl v, h1) => if ab_le h h1 = true then ab_ev K M pc' ls (v.toList ++ rest) h1 else none
  | some (.inr E, h1) => if ab_le h h1 = true then
      match ab_hn M pc E with
      | none => none
      | some none => some (.inr E, h1)
      | some (some ph) => ab_ev K M ph ls [.ref h1.2.1] (ab_ct h1)
    else none
noncomputable def ab_go (K : ab_Kt) (M pc : Nat) (ls : ab_Ls) (h : ab_H) : Option ab_R → Option (ab_O × ab_H)
  | none => none
  | some (.inl (pc', ls', st', h')) => ab_ev K M pc' ls' st' h'
  | some (.inr (.inl r)) => some r
  | some (.inr (.inr (M', as, rest, pc'))) => ab_re K M pc ls rest pc' h (ab_cal K M' as h)
theorem ab_ext {α : Type} {a b : Option α} (h : ∀ r, a = some r ↔ b = some r) : a = b := by
  cases a with
  | none =>
    cases b with
    | none => rfl
    | some y => exact absurd ((h y).mpr rfl) (by simp)
  | some x => exact ((h x).mp rfl).symm
theorem ab_le_iff {h h1 : ab_H} : ab_le h h1 = true ↔ h.2.2.1 ≤ h1.2.2.1 ∧ h.2.2.2 ≤ h1.2.2.2 := by simp [ab_le]
theorem ab_ev_eq (K : ab_Kt) (M pc : Nat) (ls : ab_Ls) (st : List Value) (h : ab_H) : ab_ev K M pc ls st h = ab_go K M pc ls h (ab_P9 K M pc ls st h) := by
  refine ab_ext (fun r => ?_)
  rw [ab_ev_iff]
  constructor
  · rintro ⟨f, hf⟩
    cases f with
    | zero => cases hf
    | succ f =>
      rw [ab_run] at hf
      cases hP : ab_P9 K M pc ls st h with
      | none => rw [hP] at hf; cases hf
      | some x =>
        rw [hP] at hf
        rcases x with ⟨pc', ls', st', h'⟩ | r' | ⟨M', as, rest, pc'⟩
        · exact ab_ev_iff.mpr ⟨f, hf⟩
        · exact hf
        · dsimp only at hf
          show ab_re K M pc ls rest pc' h (ab_cal K M' as h) = some r
          unfold ab_cal
          split at hf
          · rename_i ha
            rw [if_pos ha]
            cases hc : ab_run (ab_P9 K) ab_mx ab_hn f M' 0 (ab_ent (ab_mx M') as) [] h with
            | none => rw [hc] at hf; cases hf
            | some y =>
              rw [hc] at hf
              rw [ab_ev_iff.mpr ⟨f, hc⟩]
              rcases y with ⟨v | E, h1⟩
              · dsimp only at hf
                simp only [ab_re]
                split at hf
                · rename_i hm
                  rw [if_pos (ab_le_iff.mpr hm)]
                  exact ab_ev_iff.mpr ⟨f, hf⟩
                · cases hf
              · dsimp only at hf
                simp only [ab_re]
                split at hf
                · rename_i hm
                  rw [if_pos (ab_le_iff.mpr hm)]
                  cases hh : ab_hn M pc E with
                  | none => rw [hh] at hf; cases hf
                  | some z =>
                    rw [hh] at hf
                    cases z with
                    | none => exact hf
                    | some ph => exact ab_ev_iff.mpr ⟨f, hf⟩
                · cases hf
          · cases hf
  · intro hg
    cases hP : ab_P9 K M pc ls st h with
    | none => rw [hP] at hg; cases hg
    | some x =>
      rw [hP] at hg
      rcases x with ⟨pc', ls', st', h'⟩ | r' | ⟨M', as, rest, pc'⟩
      · obtain ⟨f, hf⟩ := ab_ev_iff.mp hg
        exact ⟨f + 1, by rw [ab_run, hP]; exact hf⟩
      · exact ⟨1, by rw [ab_run, hP]; exact hg⟩
      · have hg : ab_re K M pc ls rest pc' h (ab_cal K M' as h) = some r := hg
        unfold ab_cal at hg
        split at hg
        · rename_i ha
          cases hc : ab_ev K M' 0 (ab_ent (ab_mx M') as) [] h with
          | none => rw [hc] at hg; cases hg
          | some y =>
            rw [hc] at hg
            obtain ⟨f1, hf1⟩ := ab_ev_iff.mp hc
            rcases y with ⟨v | E, h1⟩
            · simp only [ab_re] at hg
              split at hg
              · rename_i hm
                obtain ⟨f2, hf2⟩ := ab_ev_iff.mp hg
                refine ⟨max f1 f2 + 1, ?_⟩
                rw [ab_run, hP]
                dsimp only
                rw [if_pos ha, ab_run_le _ _ _ (Nat.le_max_left f1 f2) hf1]
                dsimp only
                rw [if_pos (ab_le_iff.mp hm)]
                exact ab_run_le _ _ _ (Nat.le_max_right f1 f2) hf2
              · cases hg
            · simp only [ab_re] at hg
              split at hg
              · rename_i hm
                cases hh : ab_hn M pc E with
                | none => rw [hh] at hg; cases hg
                | some z =>
                  rw [hh] at hg
                  cases z with
                  | none =>
                    refine ⟨f1 + 1, ?_⟩
                    rw [ab_run, hP]
                    dsimp only
                    rw [if_pos ha, hf1]
                    dsimp only
                    rw [if_pos (ab_le_iff.mp hm), hh]
                    exact hg
                  | some ph =>
                    obtain ⟨f2, hf2⟩ := ab_ev_iff.mp hg
                    refine ⟨max f1 f2 + 1, ?_⟩
                    rw [ab_run, hP]
                    dsimp only
                    rw [if_pos ha, ab_run_le _ _ _ (Nat.le_max_left f1 f2) hf1]
                    dsimp only
                    rw [if_pos (ab_le_iff.mp hm), hh]
                    exact ab_run_le _ _ _ (Nat.le_max_right f1 f2) hf2
              · cases hg
        · cases hg
