/-! ===== a world by ids: what the class and the reference hold, apart from addresses ===== -/
abbrev ab_C : Type := (Nat × vp_A) ⊕ (Nat × List Value)
/-- the cells by their ids, the next id, how many cells and slots were made -/
abbrev ab_H : Type := (Nat → Option ab_C) × Nat × Nat × Nat
abbrev ab_Ls : Type := List (Option Value)
def ab_v (ρ : Nat → Nat) : Value → Value
  | .ref i => .ref (ρ i)
  | v => v
def ab_a (ρ : Nat → Nat) (a : vp_A) : vp_A := (a.1, match a.2 with
  | .inr (.inr (.inr (.inr f))) => .inr (.inr (.inr (.inr (fun j => (f j).map ρ))))
  | x => x)
def ab_e (ρ : Nat → Nat) (cA : Nat → ClassId) : ab_C → va_E
  | .inl x => .inl (cA x.1, ab_a ρ x.2)
  | .inr o => .inr (o.1, o.2.map (ab_v ρ))
def ab_ok (N : Nat) : Value → Prop
  | .ref i => i < N
  | _ => True
def ab_cok (N : Nat) : ab_C → Prop
  | .inl x => match x.2.2 with
    | .inr (.inr (.inr (.inr f))) => ∀ j i, f j = some i → i < N
    | _ => True
  | .inr o => ∀ v ∈ o.2, ab_ok N v
def ab_ws (ρ : Nat → Nat) (cA : Nat → ClassId) (h : ab_H) : va_W := (List.range h.2.1).filterMap (fun i => (h.1 i).map (fun c => (ρ i, ab_e ρ cA c)))
/-- closed: cells and what they refer to lie below the next id -/
def ab_CL (h : ab_H) : Prop := ∀ i c, h.1 i = some c → i < h.2.1 ∧ ab_cok h.2.1 c
def ab_D (A : Nat → Prop) (ρ : Nat → Nat) (h : ab_H) : Prop := (∀ i j, (h.1 i).isSome = true → (h.1 j).isSome = true → ρ i = ρ j → i = j) ∧ ∀ i, (h.1 i).isSome = true → A (ρ i)
def ab_P (D : va_G) (cl : List vw_C) (ρ : Nat → Nat) (cA : Nat → ClassId) (h : ab_H) (H : Heap) : Prop := ∀ i c, h.1 i = some c → va_at D cl (ρ i, ab_e ρ cA c) H
def ab_set (h : ab_H) (i : Nat) (c : ab_C) : ab_H := (fun j => if j = i then some c else h.1 j, h.2)
def ab_new (h : ab_H) (c : ab_C) (n : Nat) : ab_H := (fun j => if j = h.2.1 then some c else h.1 j, h.2.1 + 1, h.2.2.1 + 1, h.2.2.2 + n)
theorem ab_mem {ρ : Nat → Nat} {cA : Nat → ClassId} {h : ab_H} {i : Nat} {c : ab_C} (hc : ab_CL h) (e : h.1 i = some c) : ∃ k : Nat, (ab_ws ρ cA h)[k]? = some (ρ i, ab_e ρ cA c) := by
  have h1 : (ρ i, ab_e ρ cA c) ∈ ab_ws ρ cA h := List.mem_filterMap.mpr ⟨i, List.mem_range.mpr (hc i c e).1, by simp [e]⟩
  exact List.getElem?_of_mem h1
theorem ab_of_mem {ρ : Nat → Nat} {cA : Nat → ClassId} {h : ab_H} {k : Nat} {q : Nat × va_E} (e : (ab_ws ρ cA h)[k]? = some q) : ∃ i c, h.1 i = some c ∧ q = (ρ i, ab_e ρ cA c) := by
  obtain ⟨i, -, hi⟩ := List.mem_filterMap.mp (List.mem_of_getElem? e)
  cases hc : h.1 i with
  | none => simp [hc] at hi
  | some c =>
    simp [hc] at hi
    exact ⟨i, c, hc, hi.symm⟩
theorem ab_toP {D : va_G} {cl : List vw_C} {ρ : Nat → Nat} {cA : Nat → ClassId} {h : ab_H} {H : Heap} (hp : ab_P D cl ρ cA h H) : va_P D cl (ab_ws ρ cA h) H := by
  intro k q hk
  obtain ⟨i, c, e, rfl⟩ := ab_of_mem hk
  exact hp i c e
theorem ab_toD {A : Nat → Prop} {ρ : Nat → Nat} {cA : Nat → ClassId} {h : ab_H} (hd : ab_D A ρ h) : va_D A (ab_ws ρ cA h) := by
  have hp : (ab_ws ρ cA h).Pairwise (fun a b => a.1 ≠ b.1) := by
    unfold ab_ws
    rw [List.pairwise_filterMap]
    refine List.Pairwise.imp ?_ List.pairwise_lt_range
    intro i j hij b hb b' hb' hbb
    cases hi : h.1 i with
    | none => simp [hi] at hb
    | some ci =>
      cases hj : h.1 j with
      | none => simp [hj] at hb'
      | some cj =>
        simp [hi] at hb
        simp [hj] at hb'
        have e1 : ρ i = ρ j := by rw [← hb, ← hb'] at hbb; exact hbb
        have := hd.1 i j (by simp [hi]) (by simp [hj]) e1
        omega
  refine ⟨fun i j p q hi hj e => ?_, fun k q hk => ?_⟩
  · rw [List.pairwise_iff_getElem] at hp
    obtain ⟨li, ei⟩ := List.getElem?_eq_some_iff.mp hi
    obtain ⟨lj, ej⟩ := List.getElem?_eq_some_iff.mp hj
    rcases Nat.lt_trichotomy i j with h1 | h1 | h1
    · exact absurd (by rw [ei, ej]; exact e) (hp i j li lj h1)
    · exact h1
    · exact absurd (by rw [ei, ej]; exact e.symm) (hp j i lj li h1)
  · obtain ⟨i, c, e, rfl⟩ := ab_of_mem hk
    exact hd.2 i (by simp [e])
theorem ab_Dset {A : Nat → Prop} {ρ : Nat → Nat} {h : ab_H} {i : Nat} {c c' : ab_C} (hd : ab_D A ρ h) (e : h.1 i = some c) : ab_D A ρ (ab_set h i c') := by
  have hs : ∀ j, ((ab_set h i c').1 j).isSome = true → (h.1 j).isSome = true := by
    intro j hj
    by_cases hji : j = i
    · rw [hji, e]; rfl
    · simpa [ab_set, hji] using hj
  exact ⟨fun a b ha hb hab => hd.1 a b (hs a ha) (hs b hb) hab, fun a ha => hd.2 a (hs a ha)⟩
theorem ab_CLset {h : ab_H} {i : Nat} {c c' : ab_C} (hc : ab_CL h) (e : h.1 i = some c) (h' : ab_cok h.2.1 c') : ab_CL (ab_set h i c') := by
  intro j x hx
  by_cases hji : j = i
  · subst hji
    simp [ab_set] at hx
    subst hx
    exact ⟨(hc _ _ e).1, h'⟩
  · simp [ab_set, hji] at hx
    exact hc j x hx
theorem ab_ofSet {D : va_G} {cl : List vw_C} {A : Nat → Prop} {ρ : Nat → Nat} {cA : Nat → ClassId} {h : ab_H} {H1 : Heap} {i k : Nat} {c c' : ab_C} (hc : ab_CL h) (hd : ab_D A ρ h) (e : h.1 i = some c) (hk : (ab_ws ρ cA h)[k]? = some (ρ i, ab_e ρ cA c))
    (hp : va_P D cl ((ab_ws ρ cA h).set k (ρ i, ab_e ρ cA c')) H1) : ab_P D cl ρ cA (ab_set h i c') H1 := by
  intro j x hx
  by_cases hji : j = i
  · subst hji
    simp [ab_set] at hx
    subst hx
    exact hp k _ (List.getElem?_set_self (List.getElem?_eq_some_iff.mp hk).1)
  · simp [ab_set, hji] at hx
    obtain ⟨k', hk'⟩ := ab_mem (ρ := ρ) (cA := cA) hc hx
    refine hp k' _ ?_
    rw [List.getElem?_set_ne]
    · exact hk'
    · intro hkk
      subst hkk
      rw [hk] at hk'
      simp at hk'
      exact hji (hd.1 j i (by simp [hx]) (by simp [e]) hk'.1.symm)
theorem ab_vcongr {ρ ρ' : Nat → Nat} {N : Nat} (hr : ∀ i, i < N → ρ' i = ρ i) {v : Value} (hv : ab_ok N v) : ab_v ρ' v = ab_v ρ v := by
  cases v <;> simp_all [ab_v, ab_ok]
theorem ab_econgr {ρ ρ' : Nat → Nat} {cA : Nat → ClassId} {N : Nat} (hr : ∀ i, i < N → ρ' i = ρ i) {c : ab_C} (hc : ab_cok N c) : ab_e ρ' cA c = ab_e ρ cA c := by
  rcases c with ⟨t, n, x⟩ | ⟨ci, fs⟩
  · rcases x with f | f | f | f | f
    · rfl
    · rfl
    · rfl
    · rfl
    · have e : (fun j => (f j).map ρ') = fun j => (f j).map ρ := by
        funext j
        cases hj : f j with
        | none => rfl
        | some i => simp [hr i (hc j i hj)]
      simp only [ab_e, ab_a, e]
  · simp only [ab_e]
    congr 2
    exact List.map_congr_left (fun v hv => ab_vcongr hr (hc v hv))
theorem ab_okmono {N N' : Nat} (h : N ≤ N') {v : Value} (hv : ab_ok N v) : ab_ok N' v := by
  cases v <;> first | trivial | exact Nat.lt_of_lt_of_le hv h
theorem ab_cokmono {N N' : Nat} (h : N ≤ N') {c : ab_C} (hc : ab_cok N c) : ab_cok N' c := by
  rcases c with ⟨t, n, x⟩ | ⟨ci, fs⟩
  · rcases x with f | f | f | f | f
    · trivial
    · trivial
    · trivial
    · trivial
    · exact fun j i e => Nat.lt_of_lt_of_le (hc j i e) h
  · exact fun v hv => ab_okmono h (hc v hv)
/-- the addresses with one more -/
def ab_rn (ρ : Nat → Nat) (N q : Nat) : Nat → Nat := fun j => if j = N then q else ρ j
theorem ab_rn_lt {ρ : Nat → Nat} {N q : Nat} : ∀ i, i < N → ab_rn ρ N q i = ρ i := fun i h => if_neg (by omega)
theorem ab_CLnew {h : ab_H} {c : ab_C} {n : Nat} (hc : ab_CL h) (h' : ab_cok h.2.1 c) : ab_CL (ab_new h c n) := by
  intro j x hx
  by_cases hj : j = h.2.1
  · subst hj
    simp [ab_new] at hx
    subst hx
    exact ⟨Nat.lt_succ_self _, ab_cokmono (Nat.le_succ _) h'⟩
  · simp [ab_new, hj] at hx
    obtain ⟨h1, h2⟩ := hc j x hx
    exact ⟨Nat.lt_succ_of_lt h1, ab_cokmono (Nat.le_succ _) h2⟩
theorem ab_ofPush {D : va_G} {cl : List vw_C} {ρ : Nat → Nat} {cA : Nat → ClassId} {h : ab_H} {H1 : Heap} {c : ab_C} {n q : Nat} (hc : ab_CL h) (hco : ab_cok h.2.1 c)
    (hp : va_P D cl (ab_ws ρ cA h ++ [(q, ab_e ρ cA c)]) H1) : ab_P D cl (ab_rn ρ h.2.1 q) cA (ab_new h c n) H1 := by
  intro j x hx
  by_cases hj : j = h.2.1
  · subst hj
    simp [ab_new] at hx
    subst hx
    rw [ab_econgr ab_rn_lt hco, show ab_rn ρ h.2.1 q h.2.1 = q from if_pos rfl]
    exact hp (ab_ws ρ cA h).length _ (by simp)
  · simp [ab_new, hj] at hx
    obtain ⟨h1, h2⟩ := hc j x hx
    rw [ab_econgr ab_rn_lt h2, ab_rn_lt j h1]
    obtain ⟨k, hk⟩ := ab_mem (ρ := ρ) (cA := cA) hc hx
    exact hp k _ (by rw [List.getElem?_append_left (List.getElem?_eq_some_iff.mp hk).1]; exact hk)
theorem ab_Dpush {A : Nat → Prop} {ρ : Nat → Nat} {cA : Nat → ClassId} {h : ab_H} {c : ab_C} {e : va_E} {n q : Nat} (hc : ab_CL h) (hd : ab_D A ρ h) (hD : va_D A (ab_ws ρ cA h ++ [(q, e)])) : ab_D A (ab_rn ρ h.2.1 q) (ab_new h c n) := by
  have hlt : ∀ i, (h.1 i).isSome = true → i < h.2.1 := by
    intro i hi
    cases hx : h.1 i with
    | none => rw [hx] at hi; cases hi
    | some x => exact (hc i x hx).1
  have hs : ∀ j, j ≠ h.2.1 → ((ab_new h c n).1 j).isSome = true → (h.1 j).isSome = true := by
    intro j hj hx
    simpa [ab_new, hj] using hx
  have hq : ab_rn ρ h.2.1 q h.2.1 = q := if_pos rfl
  have hne : ∀ j, (h.1 j).isSome = true → ρ j ≠ q := by
    intro j hj hjq
    cases hx : h.1 j with
    | none => rw [hx] at hj; cases hj
    | some x =>
      obtain ⟨k, hk⟩ := ab_mem (ρ := ρ) (cA := cA) hc hx
      have hl := (List.getElem?_eq_some_iff.mp hk).1
      have := hD.1 k (ab_ws ρ cA h).length _ (q, e) (by rw [List.getElem?_append_left hl]; exact hk) (by simp) hjq
      omega
  refine ⟨fun i j hi hj hij => ?_, fun i hi => ?_⟩
  · by_cases hiN : i = h.2.1 <;> by_cases hjN : j = h.2.1
    · omega
    · rw [hiN, hq, ab_rn_lt j (hlt j (hs j hjN hj))] at hij
      exact absurd hij.symm (hne j (hs j hjN hj))
    · rw [hjN, hq, ab_rn_lt i (hlt i (hs i hiN hi))] at hij
      exact absurd hij (hne i (hs i hiN hi))
    · rw [ab_rn_lt i (hlt i (hs i hiN hi)), ab_rn_lt j (hlt j (hs j hjN hj))] at hij
      exact hd.1 i j (hs i hiN hi) (hs j hjN hj) hij
  · by_cases hiN : i = h.2.1
    · rw [hiN, hq]
      exact hD.2 (ab_ws ρ cA h).length (q, e) (by simp)
    · rw [ab_rn_lt i (hlt i (hs i hiN hi))]
      exact hd.2 i (hs i hiN hi)
/-! the locals -/
def ab_L (real : Array Slot) (nL : Nat) (ls : ab_Ls) (ρ : Nat → Nat) : Prop := real.size = nL ∧ lv_wf real ∧ ls.length = nL ∧ ∀ (i : Nat) (v : Value), ls[i]? = some (some v) → real[i]? = some (.val (ab_v ρ v))
def ab_lv (ls : ab_Ls) (ρ : Nat → Nat) : List (Nat × Value) := (List.range ls.length).filterMap (fun i => (ls[i]?.join).map (fun v => (i, ab_v ρ v)))
theorem ab_Lhas {real : Array Slot} {nL : Nat} {ls : ab_Ls} {ρ : Nat → Nat} (h : ab_L real nL ls ρ) : lv_has real nL (ab_lv ls ρ) := by
  refine ⟨h.1, h.2.1, fun q hq => ?_⟩
  obtain ⟨i, hi, he⟩ := List.mem_filterMap.mp hq
  rcases hx : ls[i]? with _ | ov
  · simp [hx] at he
  · cases ov with
    | none => simp [hx] at he
    | some v =>
      simp [hx] at he
      rw [← he]
      exact h.2.2.2 i v hx
/-- may a store go to place i: no long or double stands just ahead of it -/
def ab_g (ls : ab_Ls) : Nat → Bool
  | 0 => true
  | j + 1 => match ls[j]? with
    | some (some (.long _)) => false
    | some (some (.double _)) => false
    | _ => true
theorem ab_vcat (ρ : Nat → Nat) (v : Value) : (ab_v ρ v).category = v.category := by cases v <;> rfl
theorem ab_Lst {real real' : Array Slot} {nL i : Nat} {ls : ab_Ls} {ρ : Nat → Nat} {v : Value} (h : ab_L real nL ls ρ) (hg : ab_g ls i = true)
    (h' : lv_has real' nL ((i, ab_v ρ v) :: (ab_lv ls ρ).filter (fun q => !(q.1 == i) && !(q.1 + 1 == i && q.2.category == 2)))) : ab_L real' nL (ls.set i (some v)) ρ := by
  refine ⟨h'.1, h'.2.1, by rw [List.length_set]; exact h.2.2.1, fun j w hj => ?_⟩
  by_cases hji : j = i
  · subst hji
    have hl : j < ls.length := by
      have := (List.getElem?_eq_some_iff.mp hj).1
      simpa using this
    rw [List.getElem?_set_self hl] at hj
    cases hj
    exact h'.2.2 (j, ab_v ρ v) List.mem_cons_self
  · rw [List.getElem?_set_ne (fun e => hji e.symm)] at hj
    refine h'.2.2 (j, ab_v ρ w) (List.mem_cons_of_mem _ (List.mem_filter.mpr ⟨List.mem_filterMap.mpr ⟨j, List.mem_range.mpr (List.getElem?_eq_some_iff.mp hj).1, by simp [hj]⟩, ?_⟩))
    have e1 : (j == i) = false := by simp [hji]
    by_cases e2 : j + 1 = i
    · subst e2
      have hcat : w.category = 1 := by
        cases w <;> first | rfl | (simp [ab_g, hj] at hg)
      simp [ab_vcat, hcat]
    · simp [hji, e2]
theorem ab_Lst2 {real real' : Array Slot} {nL i : Nat} {ls : ab_Ls} {ρ : Nat → Nat} {v : Value} (h : ab_L real nL ls ρ) (hg : ab_g ls i = true)
    (h' : lv_has real' nL ((i, ab_v ρ v) :: (ab_lv ls ρ).filter (fun q => !(q.1 == i) && (!(q.1 == i + 1) && !(q.1 + 1 == i && q.2.category == 2))))) : ab_L real' nL ((ls.set i (some v)).set (i + 1) none) ρ := by
  refine ⟨h'.1, h'.2.1, by rw [List.length_set, List.length_set]; exact h.2.2.1, fun j w hj => ?_⟩
  by_cases hj1 : j = i + 1
  · subst hj1
    have hl : i + 1 < (ls.set i (some v)).length := by
      have := (List.getElem?_eq_some_iff.mp hj).1
      simpa using this
    rw [List.getElem?_set_self hl] at hj
    cases hj
  · rw [List.getElem?_set_ne (fun e => hj1 e.symm)] at hj
    by_cases hji : j = i
    · subst hji
      have hl : j < ls.length := by
        have := (List.getElem?_eq_some_iff.mp hj).1
        simpa using this
      rw [List.getElem?_set_self hl] at hj
      cases hj
      exact h'.2.2 (j, ab_v ρ v) List.mem_cons_self
    · rw [List.getElem?_set_ne (fun e => hji e.symm)] at hj
      refine h'.2.2 (j, ab_v ρ w) (List.mem_cons_of_mem _ (List.mem_filter.mpr ⟨List.mem_filterMap.mpr ⟨j, List.mem_range.mpr (List.getElem?_eq_some_iff.mp hj).1, by simp [hj]⟩, ?_⟩))
      by_cases e2 : j + 1 = i
      · subst e2
        have hcat : w.category = 1 := by
          cases w <;> first | rfl | (simp [ab_g, hj] at hg)
        simp [ab_vcat, hcat]
        omega
      · simp [hji, e2, hj1]
theorem ab_Lag {real : Array Slot} {nL N : Nat} {ls : ab_Ls} {ρ ρ' : Nat → Nat} (h : ab_L real nL ls ρ) (hr : ∀ i, i < N → ρ' i = ρ i) (ho : ∀ v, some v ∈ ls → ab_ok N v) : ab_L real nL ls ρ' :=
  ⟨h.1, h.2.1, h.2.2.1, fun i v hi => by rw [ab_vcongr hr (ho v (List.mem_of_getElem? hi))]; exact h.2.2.2 i v hi⟩
