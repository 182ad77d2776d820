/-! ===== rows of the abstract machine that read and write the world ===== -/
section
variable {K : ab_Kt} {mt : Nat → ab_M} {G : ab_M} {pc : Nat}
theorem ab_tys_at {cA : Nat → ClassId} {t : Nat} {ty : FieldType} (h : ab_ty[t]? = some ty) : (ab_tys cA)[t]? = some (cA t, ty) := by
  simp [ab_tys, List.getElem?_map, List.getElem?_zipIdx, h]
theorem ab_inOf {i : Int32} {n : Nat} (h0 : 0 ≤ i) (h1 : i.toNatClampNeg < n) : vp_in i n := by
  rintro (h | h)
  · exact absurd h0 (Int32.not_le.mpr h)
  · omega
theorem ab_rf (ρ : Nat → Nat) (x : Option Nat) : ab_v ρ (va_rf x) = va_rf (x.map ρ) := by cases x <;> rfl
theorem ab_cokf {N : Nat} {ci : Nat} {fs : List Value} (h : ab_cok N (.inr (ci, fs))) {k : Nat} {v : Value} (hv : fs[k]? = some v) : ab_ok N v := h v (List.mem_of_getElem? hv)
def ab_getf (ci k nx : Nat) : ab_Op := fun ls st h => match st with
  | .ref b :: rest => match h.1 b with
    | some (.inr (c, fs)) => match fs[k]? with
      | some v => if c = ci then some (.inl (nx, ls, v :: rest, h)) else none
      | none => none
    | _ => none
  | _ => none
theorem ab_getf_ok {ci k index N : Nat} {C : String} {T : u_T} (hd : decode G.2.1 pc = .ok (.getfield index, 3)) (hc : vwCl[ci]? = some (C, T, N)) (hin : ∀ w ∈ u_ws C T N, w ∈ ab_wG) (hk : k < N) (hw : Cond.fieldLink G.1.cls index (T k).1 (T k).2.1 (T k).2.2.1 ∈ ab_wG) : ab_OK K mt G pc (ab_getf ci k (pc + 3)) := by
  intro p l e R s m args below meth c D cA A X ρ0 N0 k0 n0 ls st h r hop
  obtain ⟨hx, hb, hr, hml, hts, hown, hlk, hst, hnm, htb, hK, hA, hfr, hlo⟩ := X
  unfold ab_getf at hop
  split at hop
  · rename_i b rest
    split at hop
    · rename_i c0 fs hcell
      split at hop
      · rename_i v hv
        split at hop
        · rename_i hci
          subst hci
          cases hop
          refine ⟨⟨Nat.le_refl _, Nat.le_refl _⟩, fun Q hc1 hc2 kk ρ H locs cells slots real hG hL hlo hso => ?_⟩
          have hG' := hG
          obtain ⟨g1, g2, g3, g4, g5, g6, g7, g8, g9, g10⟩ := hG
          obtain ⟨q0, hq0⟩ := ab_mem (ρ := ρ) (cA := cA) g3 hcell
          refine va_get (D := D) (ci := c0) (v := ab_v ρ v) (C := C) (T := T) (N := N) hx hb hts hin hown hK (ab_toP g1) q0 hq0 hc k hk (hts _ hw) (fun _ h9 => h9) (by rw [List.getElem?_map, hv]; rfl) hd ?_
          refine kk ρ H locs cells slots real hG' hL hlo (fun w hw' => ?_)
          rcases List.mem_cons.mp hw' with rfl | hw'
          · exact ab_cokf (g3 _ _ hcell).2 hv
          · exact hso w (List.mem_cons_of_mem _ hw')
        · cases hop
      · cases hop
    · cases hop
  · cases hop
/-- may a field of this type hold it -/
def ab_fit : FieldType → Value → Bool
  | .int, .int _ => true
  | .long, .long _ => true
  | .boolean, .int x => x == 0 || x == 1
  | .char, .int x => decide (0 ≤ x) && decide (x ≤ 65535)
  | .byte, .int x => x == 0
  | .object _, .ref _ => true
  | .object _, .null => true
  | .array _, .ref _ => true
  | .array _, .null => true
  | _, _ => false
theorem ab_char {x : Int32} (h0 : 0 ≤ x) (h1 : x ≤ 65535) : narrow .char (.int x) = .int x ∧ fits .char (.int x) = true := by
  obtain ⟨j, hj, rfl⟩ := nI_of2 (M := 65535) (n := 65535) (by decide) (Int32.not_lt.mpr h0) h1
  exact pk_charN (by omega)
theorem ab_fit_ok {ty : FieldType} {v : Value} (ρ : Nat → Nat) (h : ab_fit ty v = true) : narrow ty (ab_v ρ v) = ab_v ρ v ∧ fits ty (ab_v ρ v) = true := by
  unfold ab_fit at h
  split at h <;> try (first | exact ⟨rfl, rfl⟩ | cases h; done)
  · rename_i x
    rcases (by simpa using h : x = 0 ∨ x = 1) with rfl | rfl
    · exact (by decide : narrow .boolean (.int 0) = .int 0 ∧ fits .boolean (.int 0) = true)
    · exact (by decide : narrow .boolean (.int 1) = .int 1 ∧ fits .boolean (.int 1) = true)
  · rename_i x
    have h2 : 0 ≤ x ∧ x ≤ 65535 := by simpa using h
    exact ab_char h2.1 h2.2
  · rename_i x
    have h2 : x = 0 := by simpa using h
    subst h2
    exact (by decide : narrow .byte (.int 0) = .int 0 ∧ fits .byte (.int 0) = true)
def ab_putf (ci k : Nat) (ty : FieldType) (nx : Nat) : ab_Op := fun ls st h => match st with
  | v :: .ref b :: rest => match h.1 b with
    | some (.inr (c, fs)) => if c = ci ∧ k < fs.length ∧ ab_fit ty v = true then some (.inl (nx, ls, rest, ab_set h b (.inr (c, fs.set k v)))) else none
    | _ => none
  | _ => none
theorem ab_map_set {ρ : Nat → Nat} {fs : List Value} {k : Nat} {v : Value} : (fs.set k v).map (ab_v ρ) = (fs.map (ab_v ρ)).set k (ab_v ρ v) := by rw [List.map_set]
theorem ab_putf_ok {ci k index N : Nat} {C : String} {T : u_T} {ty : FieldType} {ty0 : Nat → FieldType} (hd : decode G.2.1 pc = .ok (.putfield index, 3)) (hc : vwCl[ci]? = some (C, T, N)) (hin : ∀ w ∈ u_ws C T N, w ∈ ab_wG) (hty : ∀ k, k < N → parseFieldDescriptor (T k).2.2.1 = some (ty0 k)) (hnm : ∀ a, a < N → ∀ b, b < N → a ≠ b → (T a).2.1 ≠ (T b).2.1)
    (hk : k < N) (hw : Cond.fieldLink G.1.cls index (T k).1 (T k).2.1 (T k).2.2.1 ∈ ab_wG) (hd2 : ty0 k = ty) (hfin : (T k).2.2.2 = false ∨ ((T k).2.2.2 = true ∧ G.1.name = "<init>" ∧ (T k).1 = G.1.cls)) : ab_OK K mt G pc (ab_putf ci k ty (pc + 3)) := by
  intro p l e R s m args below meth c D cA A X ρ0 N0 k0 n0 ls st h r hop
  obtain ⟨hx, hb, hr, hml, hts, hown, hlk, hst, hnm2, htb, hK, hA, hfr, hlo⟩ := X
  unfold ab_putf at hop
  split at hop
  · rename_i v b rest
    split at hop
    · rename_i c0 fs hcell
      split at hop
      · rename_i hguard
        obtain ⟨hci, hkl, hfit⟩ := hguard
        subst hci
        cases hop
        refine ⟨⟨Nat.le_refl _, Nat.le_refl _⟩, fun Q hc1 hc2 kk ρ H locs cells slots real hG hL hlo hso => ?_⟩
        obtain ⟨g1, g2, g3, g4, g5, g6, g7, g8, g9, g10⟩ := hG
        obtain ⟨q0, hq0⟩ := ab_mem (ρ := ρ) (cA := cA) g3 hcell
        obtain ⟨f1, f2⟩ := ab_fit_ok ρ hfit
        have hcl : ab_CL (ab_set h b (.inr (c0, fs.set k v))) := by
          refine ab_CLset g3 hcell (fun w hw' => ?_)
          rcases List.mem_or_eq_of_mem_set hw' with h1 | h1
          · exact (g3 _ _ hcell).2 w h1
          · rw [h1]; exact hso _ List.mem_cons_self
        have fin : ∀ (H1 : Heap) (locs1 : List Loc), va_P D vwCl ((ab_ws ρ cA h).set q0 (ρ b, .inr (c0, (fs.map (ab_v ρ)).set k (ab_v ρ v)))) H1 → va_S A s.heap H1 locs1 → W p l e R s m args below meth c H1 locs1 cells slots Q (F0 m (pc + 3) real (rest.map (ab_v ρ))) := by
          intro H1 locs1 hP1 hS1
          refine kk ρ H1 locs1 cells slots real ⟨ab_ofSet (c' := .inr (c0, fs.set k v)) g3 g2 hcell hq0 (by simp only [ab_e, ab_map_set]; exact hP1), ab_Dset g2 hcell, hcl, hS1, g5, g6, g7, g8, g9, g10⟩ hL hlo (fun w hw' => hso w (List.mem_cons_of_mem _ (List.mem_cons_of_mem _ hw')))
        have hkl' : k < (fs.map (ab_v ρ)).length := by rw [List.length_map]; exact hkl
        rcases hfin with hf | ⟨hf, hn, hde⟩
        · exact va_put (D := D) (ci := c0) (v := ab_v ρ v) (ty := ty) (C := C) (T := T) (N := N) hx hb hts hin ty0 hty hnm hown hK (ab_toP g1) (ab_toD g2) g4 q0 hq0 hc k hk (hts _ hw) (fun _ h9 => h9) hf (by rw [hty k hk, hd2]) f1 f2 hkl' hd (fun H1 locs1 hP1 _ hS1 => fin H1 locs1 hP1 hS1)
        · exact va_putF (D := D) (ci := c0) (v := ab_v ρ v) (ty := ty) (C := C) (T := T) (N := N) hx hb hts hin ty0 hty hnm hown hK (ab_toP g1) (ab_toD g2) g4 q0 hq0 hc k hk (hts _ hw) (fun _ h9 => h9) hf (hnm2.trans hn) hde (by rw [hty k hk, hd2]) f1 f2 hkl' hd (fun H1 locs1 hP1 _ hS1 => fin H1 locs1 hP1 hS1)
      · cases hop
    · cases hop
  · cases hop
-- ==== arrays
/-- a load out of a row of ints, booleans, chars or bytes: the kind t -/
def ab_ald (t nx : Nat) : ab_Op := fun ls st h => match st with
  | .int i :: .ref b :: rest => match h.1 b with
    | some (.inl (t', n, .inl f)) => if t' = t ∧ 0 ≤ i ∧ i.toNatClampNeg < n then some (.inl (nx, ls, .int (f i.toNatClampNeg) :: rest, h)) else none
    | _ => none
  | _ => none
theorem ab_ald0_ok (hd : decode G.2.1 pc = .ok (.iaload, 1)) : ab_OK K mt G pc (ab_ald 0 (pc + 1)) := by
  intro p l e R s m args below meth c D cA A X ρ0 N0 k0 n0 ls st h r hop
  obtain ⟨hx, hb, hr, hml, hts, hown, hlk, hst, hnm, htb, hK, hA, hfr, hlo⟩ := X
  unfold ab_ald at hop
  split at hop
  · rename_i i b rest
    split at hop
    · rename_i t' n f hcell
      split at hop
      · rename_i hguard
        obtain ⟨ht, h0, h1⟩ := hguard
        subst ht
        cases hop
        refine ⟨⟨Nat.le_refl _, Nat.le_refl _⟩, fun Q hc1 hc2 kk ρ H locs cells slots real hG hL hlo hso => ?_⟩
        have hG' := hG
        obtain ⟨g1, g2, g3, g4, g5, g6, g7, g8, g9, g10⟩ := hG
        obtain ⟨q0, hq0⟩ := ab_mem (ρ := ρ) (cA := cA) g3 hcell
        refine va_iald hx hb hK (ab_toP g1) q0 0 hq0 (ab_tys_at rfl) (ab_inOf h0 h1) hd ?_
        refine kk ρ H locs cells slots real hG' hL hlo (fun w hw' => ?_)
        rcases List.mem_cons.mp hw' with rfl | hw'
        · trivial
        · exact hso w (List.mem_cons_of_mem _ (List.mem_cons_of_mem _ hw'))
      · cases hop
    · cases hop
  · cases hop
theorem ab_ald1_ok (hd : decode G.2.1 pc = .ok (.baload, 1)) : ab_OK K mt G pc (ab_ald 1 (pc + 1)) := by
  intro p l e R s m args below meth c D cA A X ρ0 N0 k0 n0 ls st h r hop
  obtain ⟨hx, hb, hr, hml, hts, hown, hlk, hst, hnm, htb, hK, hA, hfr, hlo⟩ := X
  unfold ab_ald at hop
  split at hop
  · rename_i i b rest
    split at hop
    · rename_i t' n f hcell
      split at hop
      · rename_i hguard
        obtain ⟨ht, h0, h1⟩ := hguard
        subst ht
        cases hop
        refine ⟨⟨Nat.le_refl _, Nat.le_refl _⟩, fun Q hc1 hc2 kk ρ H locs cells slots real hG hL hlo hso => ?_⟩
        have hG' := hG
        obtain ⟨g1, g2, g3, g4, g5, g6, g7, g8, g9, g10⟩ := hG
        obtain ⟨q0, hq0⟩ := ab_mem (ρ := ρ) (cA := cA) g3 hcell
        refine va_zald hx hb hK (ab_toP g1) q0 1 hq0 (ab_tys_at rfl) (ab_inOf h0 h1) hd ?_
        refine kk ρ H locs cells slots real hG' hL hlo (fun w hw' => ?_)
        rcases List.mem_cons.mp hw' with rfl | hw'
        · trivial
        · exact hso w (List.mem_cons_of_mem _ (List.mem_cons_of_mem _ hw'))
      · cases hop
    · cases hop
  · cases hop
theorem ab_ald3_ok (hd : decode G.2.1 pc = .ok (.caload, 1)) : ab_OK K mt G pc (ab_ald 3 (pc + 1)) := by
  intro p l e R s m args below meth c D cA A X ρ0 N0 k0 n0 ls st h r hop
  obtain ⟨hx, hb, hr, hml, hts, hown, hlk, hst, hnm, htb, hK, hA, hfr, hlo⟩ := X
  unfold ab_ald at hop
  split at hop
  · rename_i i b rest
    split at hop
    · rename_i t' n f hcell
      split at hop
      · rename_i hguard
        obtain ⟨ht, h0, h1⟩ := hguard
        subst ht
        cases hop
        refine ⟨⟨Nat.le_refl _, Nat.le_refl _⟩, fun Q hc1 hc2 kk ρ H locs cells slots real hG hL hlo hso => ?_⟩
        have hG' := hG
        obtain ⟨g1, g2, g3, g4, g5, g6, g7, g8, g9, g10⟩ := hG
        obtain ⟨q0, hq0⟩ := ab_mem (ρ := ρ) (cA := cA) g3 hcell
        refine va_cald hx hb hK (ab_toP g1) q0 3 hq0 (ab_tys_at rfl) (ab_inOf h0 h1) hd ?_
        refine kk ρ H locs cells slots real hG' hL hlo (fun w hw' => ?_)
        rcases List.mem_cons.mp hw' with rfl | hw'
        · trivial
        · exact hso w (List.mem_cons_of_mem _ (List.mem_cons_of_mem _ hw'))
      · cases hop
    · cases hop
  · cases hop
theorem ab_ald4_ok (hd : decode G.2.1 pc = .ok (.baload, 1)) : ab_OK K mt G pc (ab_ald 4 (pc + 1)) := by
  intro p l e R s m args below meth c D cA A X ρ0 N0 k0 n0 ls st h r hop
  obtain ⟨hx, hb, hr, hml, hts, hown, hlk, hst, hnm, htb, hK, hA, hfr, hlo⟩ := X
  unfold ab_ald at hop
  split at hop
  · rename_i i b rest
    split at hop
    · rename_i t' n f hcell
      split at hop
      · rename_i hguard
        obtain ⟨ht, h0, h1⟩ := hguard
        subst ht
        cases hop
        refine ⟨⟨Nat.le_refl _, Nat.le_refl _⟩, fun Q hc1 hc2 kk ρ H locs cells slots real hG hL hlo hso => ?_⟩
        have hG' := hG
        obtain ⟨g1, g2, g3, g4, g5, g6, g7, g8, g9, g10⟩ := hG
        obtain ⟨q0, hq0⟩ := ab_mem (ρ := ρ) (cA := cA) g3 hcell
        refine va_bald hx hb hK (ab_toP g1) q0 4 hq0 (ab_tys_at rfl) (ab_inOf h0 h1) hd ?_
        refine kk ρ H locs cells slots real hG' hL hlo (fun w hw' => ?_)
        rcases List.mem_cons.mp hw' with rfl | hw'
        · trivial
        · exact hso w (List.mem_cons_of_mem _ (List.mem_cons_of_mem _ hw'))
      · cases hop
    · cases hop
  · cases hop
def ab_lald (nx : Nat) : ab_Op := fun ls st h => match st with
  | .int i :: .ref b :: rest => match h.1 b with
    | some (.inl (t', n, .inr (.inl f))) => if t' = 2 ∧ 0 ≤ i ∧ i.toNatClampNeg < n then some (.inl (nx, ls, .long (f i.toNatClampNeg) :: rest, h)) else none
    | _ => none
  | _ => none
theorem ab_lald_ok (hd : decode G.2.1 pc = .ok (.laload, 1)) : ab_OK K mt G pc (ab_lald (pc + 1)) := by
  intro p l e R s m args below meth c D cA A X ρ0 N0 k0 n0 ls st h r hop
  obtain ⟨hx, hb, hr, hml, hts, hown, hlk, hst, hnm, htb, hK, hA, hfr, hlo⟩ := X
  unfold ab_lald at hop
  split at hop
  · rename_i i b rest
    split at hop
    · rename_i t' n f hcell
      split at hop
      · rename_i hguard
        obtain ⟨ht, h0, h1⟩ := hguard
        subst ht
        cases hop
        refine ⟨⟨Nat.le_refl _, Nat.le_refl _⟩, fun Q hc1 hc2 kk ρ H locs cells slots real hG hL hlo hso => ?_⟩
        have hG' := hG
        obtain ⟨g1, g2, g3, g4, g5, g6, g7, g8, g9, g10⟩ := hG
        obtain ⟨q0, hq0⟩ := ab_mem (ρ := ρ) (cA := cA) g3 hcell
        refine va_lald hx hb hK (ab_toP g1) q0 2 hq0 (ab_tys_at rfl) (ab_inOf h0 h1) hd ?_
        refine kk ρ H locs cells slots real hG' hL hlo (fun w hw' => ?_)
        rcases List.mem_cons.mp hw' with rfl | hw'
        · trivial
        · exact hso w (List.mem_cons_of_mem _ (List.mem_cons_of_mem _ hw'))
      · cases hop
    · cases hop
  · cases hop
def ab_dald (nx : Nat) : ab_Op := fun ls st h => match st with
  | .int i :: .ref b :: rest => match h.1 b with
    | some (.inl (t', n, .inr (.inr (.inr (.inl f))))) => if t' = 5 ∧ 0 ≤ i ∧ i.toNatClampNeg < n then some (.inl (nx, ls, .double (f i.toNatClampNeg) :: rest, h)) else none
    | _ => none
  | _ => none
theorem ab_dald_ok (hd : decode G.2.1 pc = .ok (.daload, 1)) : ab_OK K mt G pc (ab_dald (pc + 1)) := by
  intro p l e R s m args below meth c D cA A X ρ0 N0 k0 n0 ls st h r hop
  obtain ⟨hx, hb, hr, hml, hts, hown, hlk, hst, hnm, htb, hK, hA, hfr, hlo⟩ := X
  unfold ab_dald at hop
  split at hop
  · rename_i i b rest
    split at hop
    · rename_i t' n f hcell
      split at hop
      · rename_i hguard
        obtain ⟨ht, h0, h1⟩ := hguard
        subst ht
        cases hop
        refine ⟨⟨Nat.le_refl _, Nat.le_refl _⟩, fun Q hc1 hc2 kk ρ H locs cells slots real hG hL hlo hso => ?_⟩
        have hG' := hG
        obtain ⟨g1, g2, g3, g4, g5, g6, g7, g8, g9, g10⟩ := hG
        obtain ⟨q0, hq0⟩ := ab_mem (ρ := ρ) (cA := cA) g3 hcell
        refine va_dald hx hb hK (ab_toP g1) q0 5 hq0 (ab_tys_at rfl) (ab_inOf h0 h1) hd ?_
        refine kk ρ H locs cells slots real hG' hL hlo (fun w hw' => ?_)
        rcases List.mem_cons.mp hw' with rfl | hw'
        · trivial
        · exact hso w (List.mem_cons_of_mem _ (List.mem_cons_of_mem _ hw'))
      · cases hop
    · cases hop
  · cases hop
def ab_aald (t nx : Nat) : ab_Op := fun ls st h => match st with
  | .int i :: .ref b :: rest => match h.1 b with
    | some (.inl (t', n, .inr (.inr (.inr (.inr f))))) => if t' = t ∧ 0 ≤ i ∧ i.toNatClampNeg < n then some (.inl (nx, ls, va_rf (f i.toNatClampNeg) :: rest, h)) else none
    | _ => none
  | _ => none
theorem ab_aald_ok {t : Nat} {C : String} (hd : decode G.2.1 pc = .ok (.aaload, 1)) (hty : ab_ty[t]? = some (.object C)) : ab_OK K mt G pc (ab_aald t (pc + 1)) := by
  intro p l e R s m args below meth c D cA A X ρ0 N0 k0 n0 ls st h r hop
  obtain ⟨hx, hb, hr, hml, hts, hown, hlk, hst, hnm, htb, hK, hA, hfr, hlo⟩ := X
  unfold ab_aald at hop
  split at hop
  · rename_i i b rest
    split at hop
    · rename_i t' n f hcell
      split at hop
      · rename_i hguard
        obtain ⟨ht, h0, h1⟩ := hguard
        subst ht
        cases hop
        refine ⟨⟨Nat.le_refl _, Nat.le_refl _⟩, fun Q hc1 hc2 kk ρ H locs cells slots real hG hL hlo hso => ?_⟩
        have hG' := hG
        obtain ⟨g1, g2, g3, g4, g5, g6, g7, g8, g9, g10⟩ := hG
        obtain ⟨q0, hq0⟩ := ab_mem (ρ := ρ) (cA := cA) g3 hcell
        refine va_aldq hx hb hK (ab_toP g1) q0 t' hq0 (ab_tys_at hty) (ab_inOf h0 h1) hd ?_
        rw [← ab_rf]
        refine kk ρ H locs cells slots real hG' hL hlo (fun w hw' => ?_)
        rcases List.mem_cons.mp hw' with rfl | hw'
        · cases hf : f i.toNatClampNeg with
          | none => trivial
          | some j => exact (g3 _ _ hcell).2 _ _ hf
        · exact hso w (List.mem_cons_of_mem _ (List.mem_cons_of_mem _ hw'))
      · cases hop
    · cases hop
  · cases hop
/-- a store into a row of ints, booleans, chars or bytes -/
def ab_ast (t : Nat) (ty : FieldType) (nx : Nat) : ab_Op := fun ls st h => match st with
  | .int x :: .int i :: .ref b :: rest => match h.1 b with
    | some (.inl (t', n, .inl f)) => if t' = t ∧ 0 ≤ i ∧ i.toNatClampNeg < n then some (.inl (nx, ls, rest, ab_set h b (.inl (t', n, .inl (upd f i.toNatClampNeg (vp_nar ty x)))))) else none
    | _ => none
  | _ => none
theorem ab_ast0_ok (hd : decode G.2.1 pc = .ok (.iastore, 1)) : ab_OK K mt G pc (ab_ast 0 .int (pc + 1)) := by
  intro p l e R s m args below meth c D cA A X ρ0 N0 k0 n0 ls st h r hop
  obtain ⟨hx, hb, hr, hml, hts, hown, hlk, hst, hnm, htb, hK, hA, hfr, hlo⟩ := X
  unfold ab_ast at hop
  split at hop
  · rename_i x i b rest
    split at hop
    · rename_i t' n f hcell
      split at hop
      · rename_i hguard
        obtain ⟨ht, h0, h1⟩ := hguard
        subst ht
        cases hop
        refine ⟨⟨Nat.le_refl _, Nat.le_refl _⟩, fun Q hc1 hc2 kk ρ H locs cells slots real hG hL hlo hso => ?_⟩
        obtain ⟨g1, g2, g3, g4, g5, g6, g7, g8, g9, g10⟩ := hG
        obtain ⟨q0, hq0⟩ := ab_mem (ρ := ρ) (cA := cA) g3 hcell
        refine va_iast hx hb hK (ab_toP g1) (ab_toD g2) g4 q0 0 hq0 (ab_tys_at rfl) (ab_inOf h0 h1) hd (fun H1 locs1 hP1 _ hS1 => ?_)
        refine kk ρ H1 locs1 cells slots real ⟨ab_ofSet g3 g2 hcell hq0 hP1, ab_Dset g2 hcell, ab_CLset g3 hcell trivial, hS1, g5, g6, g7, g8, g9, g10⟩ hL hlo (fun w hw' => hso w (List.mem_cons_of_mem _ (List.mem_cons_of_mem _ (List.mem_cons_of_mem _ hw'))))
      · cases hop
    · cases hop
  · cases hop
theorem ab_ast1_ok (hd : decode G.2.1 pc = .ok (.bastore, 1)) : ab_OK K mt G pc (ab_ast 1 .boolean (pc + 1)) := by
  intro p l e R s m args below meth c D cA A X ρ0 N0 k0 n0 ls st h r hop
  obtain ⟨hx, hb, hr, hml, hts, hown, hlk, hst, hnm, htb, hK, hA, hfr, hlo⟩ := X
  unfold ab_ast at hop
  split at hop
  · rename_i x i b rest
    split at hop
    · rename_i t' n f hcell
      split at hop
      · rename_i hguard
        obtain ⟨ht, h0, h1⟩ := hguard
        subst ht
        cases hop
        refine ⟨⟨Nat.le_refl _, Nat.le_refl _⟩, fun Q hc1 hc2 kk ρ H locs cells slots real hG hL hlo hso => ?_⟩
        obtain ⟨g1, g2, g3, g4, g5, g6, g7, g8, g9, g10⟩ := hG
        obtain ⟨q0, hq0⟩ := ab_mem (ρ := ρ) (cA := cA) g3 hcell
        refine va_zast hx hb hK (ab_toP g1) (ab_toD g2) g4 q0 1 hq0 (ab_tys_at rfl) (ab_inOf h0 h1) hd (fun H1 locs1 hP1 _ hS1 => ?_)
        refine kk ρ H1 locs1 cells slots real ⟨ab_ofSet g3 g2 hcell hq0 hP1, ab_Dset g2 hcell, ab_CLset g3 hcell trivial, hS1, g5, g6, g7, g8, g9, g10⟩ hL hlo (fun w hw' => hso w (List.mem_cons_of_mem _ (List.mem_cons_of_mem _ (List.mem_cons_of_mem _ hw'))))
      · cases hop
    · cases hop
  · cases hop
theorem ab_ast3_ok (hd : decode G.2.1 pc = .ok (.castore, 1)) : ab_OK K mt G pc (ab_ast 3 .char (pc + 1)) := by
  intro p l e R s m args below meth c D cA A X ρ0 N0 k0 n0 ls st h r hop
  obtain ⟨hx, hb, hr, hml, hts, hown, hlk, hst, hnm, htb, hK, hA, hfr, hlo⟩ := X
  unfold ab_ast at hop
  split at hop
  · rename_i x i b rest
    split at hop
    · rename_i t' n f hcell
      split at hop
      · rename_i hguard
        obtain ⟨ht, h0, h1⟩ := hguard
        subst ht
        cases hop
        refine ⟨⟨Nat.le_refl _, Nat.le_refl _⟩, fun Q hc1 hc2 kk ρ H locs cells slots real hG hL hlo hso => ?_⟩
        obtain ⟨g1, g2, g3, g4, g5, g6, g7, g8, g9, g10⟩ := hG
        obtain ⟨q0, hq0⟩ := ab_mem (ρ := ρ) (cA := cA) g3 hcell
        refine va_cast hx hb hK (ab_toP g1) (ab_toD g2) g4 q0 3 hq0 (ab_tys_at rfl) (ab_inOf h0 h1) hd (fun H1 locs1 hP1 _ hS1 => ?_)
        refine kk ρ H1 locs1 cells slots real ⟨ab_ofSet g3 g2 hcell hq0 hP1, ab_Dset g2 hcell, ab_CLset g3 hcell trivial, hS1, g5, g6, g7, g8, g9, g10⟩ hL hlo (fun w hw' => hso w (List.mem_cons_of_mem _ (List.mem_cons_of_mem _ (List.mem_cons_of_mem _ hw'))))
      · cases hop
    · cases hop
  · cases hop
theorem ab_ast4_ok (hd : decode G.2.1 pc = .ok (.bastore, 1)) : ab_OK K mt G pc (ab_ast 4 .byte (pc + 1)) := by
  intro p l e R s m args below meth c D cA A X ρ0 N0 k0 n0 ls st h r hop
  obtain ⟨hx, hb, hr, hml, hts, hown, hlk, hst, hnm, htb, hK, hA, hfr, hlo⟩ := X
  unfold ab_ast at hop
  split at hop
  · rename_i x i b rest
    split at hop
    · rename_i t' n f hcell
      split at hop
      · rename_i hguard
        obtain ⟨ht, h0, h1⟩ := hguard
        subst ht
        cases hop
        refine ⟨⟨Nat.le_refl _, Nat.le_refl _⟩, fun Q hc1 hc2 kk ρ H locs cells slots real hG hL hlo hso => ?_⟩
        obtain ⟨g1, g2, g3, g4, g5, g6, g7, g8, g9, g10⟩ := hG
        obtain ⟨q0, hq0⟩ := ab_mem (ρ := ρ) (cA := cA) g3 hcell
        refine va_bast hx hb hK (ab_toP g1) (ab_toD g2) g4 q0 4 hq0 (ab_tys_at rfl) (ab_inOf h0 h1) hd (fun H1 locs1 hP1 _ hS1 => ?_)
        refine kk ρ H1 locs1 cells slots real ⟨ab_ofSet g3 g2 hcell hq0 hP1, ab_Dset g2 hcell, ab_CLset g3 hcell trivial, hS1, g5, g6, g7, g8, g9, g10⟩ hL hlo (fun w hw' => hso w (List.mem_cons_of_mem _ (List.mem_cons_of_mem _ (List.mem_cons_of_mem _ hw'))))
      · cases hop
    · cases hop
  · cases hop
def ab_last (nx : Nat) : ab_Op := fun ls st h => match st with
  | .long x :: .int i :: .ref b :: rest => match h.1 b with
    | some (.inl (t', n, .inr (.inl f))) => if t' = 2 ∧ 0 ≤ i ∧ i.toNatClampNeg < n then some (.inl (nx, ls, rest, ab_set h b (.inl (t', n, .inr (.inl (vp_updL f i.toNatClampNeg x)))))) else none
    | _ => none
  | _ => none
theorem ab_last_ok (hd : decode G.2.1 pc = .ok (.lastore, 1)) : ab_OK K mt G pc (ab_last (pc + 1)) := by
  intro p l e R s m args below meth c D cA A X ρ0 N0 k0 n0 ls st h r hop
  obtain ⟨hx, hb, hr, hml, hts, hown, hlk, hst, hnm, htb, hK, hA, hfr, hlo⟩ := X
  unfold ab_last at hop
  split at hop
  · rename_i x i b rest
    split at hop
    · rename_i t' n f hcell
      split at hop
      · rename_i hguard
        obtain ⟨ht, h0, h1⟩ := hguard
        subst ht
        cases hop
        refine ⟨⟨Nat.le_refl _, Nat.le_refl _⟩, fun Q hc1 hc2 kk ρ H locs cells slots real hG hL hlo hso => ?_⟩
        obtain ⟨g1, g2, g3, g4, g5, g6, g7, g8, g9, g10⟩ := hG
        obtain ⟨q0, hq0⟩ := ab_mem (ρ := ρ) (cA := cA) g3 hcell
        refine va_last hx hb hK (ab_toP g1) (ab_toD g2) g4 q0 2 hq0 (ab_tys_at rfl) (ab_inOf h0 h1) hd (fun H1 locs1 hP1 _ hS1 => ?_)
        refine kk ρ H1 locs1 cells slots real ⟨ab_ofSet g3 g2 hcell hq0 hP1, ab_Dset g2 hcell, ab_CLset g3 hcell trivial, hS1, g5, g6, g7, g8, g9, g10⟩ hL hlo (fun w hw' => hso w (List.mem_cons_of_mem _ (List.mem_cons_of_mem _ (List.mem_cons_of_mem _ hw'))))
      · cases hop
    · cases hop
  · cases hop
def ab_dast (nx : Nat) : ab_Op := fun ls st h => match st with
  | .double x :: .int i :: .ref b :: rest => match h.1 b with
    | some (.inl (t', n, .inr (.inr (.inr (.inl f))))) => if t' = 5 ∧ 0 ≤ i ∧ i.toNatClampNeg < n then some (.inl (nx, ls, rest, ab_set h b (.inl (t', n, .inr (.inr (.inr (.inl (fun j => if j = i.toNatClampNeg then x else f j)))))))) else none
    | _ => none
  | _ => none
theorem ab_dast_ok (hd : decode G.2.1 pc = .ok (.dastore, 1)) : ab_OK K mt G pc (ab_dast (pc + 1)) := by
  intro p l e R s m args below meth c D cA A X ρ0 N0 k0 n0 ls st h r hop
  obtain ⟨hx, hb, hr, hml, hts, hown, hlk, hst, hnm, htb, hK, hA, hfr, hlo⟩ := X
  unfold ab_dast at hop
  split at hop
  · rename_i x i b rest
    split at hop
    · rename_i t' n f hcell
      split at hop
      · rename_i hguard
        obtain ⟨ht, h0, h1⟩ := hguard
        subst ht
        cases hop
        refine ⟨⟨Nat.le_refl _, Nat.le_refl _⟩, fun Q hc1 hc2 kk ρ H locs cells slots real hG hL hlo hso => ?_⟩
        obtain ⟨g1, g2, g3, g4, g5, g6, g7, g8, g9, g10⟩ := hG
        obtain ⟨q0, hq0⟩ := ab_mem (ρ := ρ) (cA := cA) g3 hcell
        refine va_dast hx hb hK (ab_toP g1) (ab_toD g2) g4 q0 5 hq0 (ab_tys_at rfl) (ab_inOf h0 h1) hd (fun H1 locs1 hP1 _ hS1 => ?_)
        refine kk ρ H1 locs1 cells slots real ⟨ab_ofSet g3 g2 hcell hq0 hP1, ab_Dset g2 hcell, ab_CLset g3 hcell trivial, hS1, g5, g6, g7, g8, g9, g10⟩ hL hlo (fun w hw' => hso w (List.mem_cons_of_mem _ (List.mem_cons_of_mem _ (List.mem_cons_of_mem _ hw'))))
      · cases hop
    · cases hop
  · cases hop
def ab_aast (t ci nx : Nat) : ab_Op := fun ls st h => match st with
  | .ref v :: .int i :: .ref b :: rest => match h.1 b with
    | some (.inl (t', n, .inr (.inr (.inr (.inr f))))) => match h.1 v with
      | some (.inr (cv, fs)) => if t' = t ∧ cv = ci ∧ 0 ≤ i ∧ i.toNatClampNeg < n then some (.inl (nx, ls, rest, ab_set h b (.inl (t', n, .inr (.inr (.inr (.inr (va_up f i.toNatClampNeg (some v))))))))) else none
      | _ => none
    | _ => none
  | _ => none
theorem ab_upmap {ρ : Nat → Nat} {f : Nat → Option Nat} {k v : Nat} : (fun j => (va_up f k (some v) j).map ρ) = va_up (fun j => (f j).map ρ) k (some (ρ v)) := by
  funext j
  by_cases hj : j = k <;> simp [va_up, hj]
theorem ab_aast_ok {t ci : Nat} {r0 : vw_C} (hd : decode G.2.1 pc = .ok (.aastore, 1)) (hc : vwCl[ci]? = some r0) (hty : ab_ty[t]? = some (.object r0.1)) : ab_OK K mt G pc (ab_aast t ci (pc + 1)) := by
  intro p l e R s m args below meth c D cA A X ρ0 N0 k0 n0 ls st h r hop
  obtain ⟨hx, hb, hr, hml, hts, hown, hlk, hst, hnm, htb, hK, hA, hfr, hlo⟩ := X
  unfold ab_aast at hop
  split at hop
  · rename_i v i b rest
    split at hop
    · rename_i t' n f hcell
      split at hop
      · rename_i cv fs hv
        split at hop
        · rename_i hguard
          obtain ⟨ht, hcv, h0, h1⟩ := hguard
          subst ht
          subst hcv
          cases hop
          refine ⟨⟨Nat.le_refl _, Nat.le_refl _⟩, fun Q hc1 hc2 kk ρ H locs cells slots real hG hL hlo hso => ?_⟩
          obtain ⟨g1, g2, g3, g4, g5, g6, g7, g8, g9, g10⟩ := hG
          obtain ⟨q0, hq0⟩ := ab_mem (ρ := ρ) (cA := cA) g3 hcell
          obtain ⟨qk, hqk⟩ := ab_mem (ρ := ρ) (cA := cA) g3 hv
          refine va_astq hx hb hK (ab_toP g1) (ab_toD g2) g4 q0 t' qk cv hq0 (ab_tys_at hty) hqk hc (ab_inOf h0 h1) hd (fun H1 locs1 hP1 _ hS1 => ?_)
          refine kk ρ H1 locs1 cells slots real ⟨ab_ofSet (c' := .inl (t', n, .inr (.inr (.inr (.inr (va_up f i.toNatClampNeg (some v))))))) g3 g2 hcell hq0 (by simp only [ab_e, ab_a, ab_upmap]; exact hP1), ab_Dset g2 hcell, ab_CLset g3 hcell (fun j x hx => ?_), hS1, g5, g6, g7, g8, g9, g10⟩ hL hlo (fun w hw' => hso w (List.mem_cons_of_mem _ (List.mem_cons_of_mem _ (List.mem_cons_of_mem _ hw'))))
          by_cases hj : j = i.toNatClampNeg
          · simp [va_up, hj] at hx
            rw [← hx]
            exact (g3 _ _ hv).1
          · simp [va_up, hj] at hx
            exact (g3 _ _ hcell).2 j x hx
        · cases hop
      · cases hop
    · cases hop
  · cases hop
def ab_alen (nx : Nat) : ab_Op := fun ls st h => match st with
  | .ref b :: rest => match h.1 b with
    | some (.inl (t, n, x)) => if t < 9 then some (.inl (nx, ls, .int (Int32.ofNat n) :: rest, h)) else none
    | _ => none
  | _ => none
theorem ab_alen_ok (hd : decode G.2.1 pc = .ok (.arraylength, 1)) : ab_OK K mt G pc (ab_alen (pc + 1)) := by
  intro p l e R s m args below meth c D cA A X ρ0 N0 k0 n0 ls st h r hop
  obtain ⟨hx, hb, hr, hml, hts, hown, hlk, hst, hnm, htb, hK, hA, hfr, hlo⟩ := X
  unfold ab_alen at hop
  split at hop
  · rename_i b rest
    split at hop
    · rename_i t n x hcell
      split at hop
      · rename_i ht
        cases hop
        refine ⟨⟨Nat.le_refl _, Nat.le_refl _⟩, fun Q hc1 hc2 kk ρ H locs cells slots real hG hL hlo hso => ?_⟩
        have hG' := hG
        obtain ⟨g1, g2, g3, g4, g5, g6, g7, g8, g9, g10⟩ := hG
        obtain ⟨q0, hq0⟩ := ab_mem (ρ := ρ) (cA := cA) g3 hcell
        have hty : ab_ty[t]? = some (ab_ty[t]'ht) := List.getElem?_eq_getElem ht
        refine va_alen (x := ab_a ρ (n, x)) hx hb hK (ab_toP g1) q0 t hq0 (ab_tys_at hty) rfl hd ?_
        refine kk ρ H locs cells slots real hG' hL hlo (fun w hw' => ?_)
        rcases List.mem_cons.mp hw' with rfl | hw'
        · trivial
        · exact hso w (List.mem_cons_of_mem _ hw')
      · cases hop
    · cases hop
  · cases hop
end
