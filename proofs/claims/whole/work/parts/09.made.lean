/-! ===== what is made, what is given, ends, throws ===== -/
section
variable {K : ab_Kt} {mt : Nat → ab_M} {G : ab_M} {pc : Nat}
def ab_pl : Value → Bool
  | .ref _ => false
  | _ => true
theorem ab_plv {fs : List Value} (h : fs.all ab_pl = true) (ρ : Nat → Nat) : fs.map (ab_v ρ) = fs := by
  have h1 : ∀ v ∈ fs, ab_v ρ v = v := by
    intro v hv
    have := List.all_eq_true.mp h v hv
    cases v <;> first | rfl | simp [ab_pl] at this
  calc fs.map (ab_v ρ) = fs.map id := List.map_congr_left h1
    _ = fs := List.map_id fs
theorem ab_plok {fs : List Value} (h : fs.all ab_pl = true) {N : Nat} : ∀ v ∈ fs, ab_ok N v := by
  intro v hv
  have := List.all_eq_true.mp h v hv
  cases v <;> first | trivial | simp [ab_pl] at this
/-- the locals and a stack behind one more cell -/
theorem ab_pushG {R : Room} {s : State} {D : va_G} {cA : Nat → ClassId} {A : Nat → Prop} {K : ab_Kt} {ρ0 ρ : Nat → Nat} {N0 k0 n0 : Nat} {h : ab_H} {H H1 : Heap} {locs : List Loc} {cells slots : Nat} {c : ab_C} {n q : Nat}
    (hG : ab_G R s D cA A K ρ0 N0 k0 n0 h ρ H locs cells slots) (hco : ab_cok h.2.1 c) (hP : va_P D vwCl (ab_ws ρ cA h ++ [(q, ab_e ρ cA c)]) H1) (hD : va_D A (ab_ws ρ cA h ++ [(q, ab_e ρ cA c)])) (hS : va_S A s.heap H1 locs) :
    ab_G R s D cA A K ρ0 N0 k0 n0 (ab_new h c n) (ab_rn ρ h.2.1 q) H1 locs (cells + 1) (slots + n) := by
  obtain ⟨g1, g2, g3, g4, g5, g6, g7, g8, g9, g10⟩ := hG
  refine ⟨ab_ofPush g3 hco hP, ab_Dpush g3 g2 hD, ab_CLnew g3 hco, hS, ?_, ?_, Nat.le_trans g7 (Nat.le_succ _), fun i hi => (ab_rn_lt i (Nat.lt_of_lt_of_le hi g7)).trans (g8 i hi), g9, ab_F.ren g10 (fun i hi => ab_rn_lt i (by omega))⟩
  · show h.2.2.1 + 1 = _; omega
  · show h.2.2.2 + n = _; omega
theorem ab_pushst {ρ : Nat → Nat} {N q : Nat} {st : List Value} (hs : ∀ v ∈ st, ab_ok N v) : (Value.ref N :: st).map (ab_v (ab_rn ρ N q)) = .ref q :: st.map (ab_v ρ) := by
  rw [List.map_cons]
  congr 1
  · show Value.ref (ab_rn ρ N q N) = _
    rw [show ab_rn ρ N q N = q from if_pos rfl]
  · exact List.map_congr_left (fun v hv => ab_vcongr ab_rn_lt (hs v hv))
/-- a new object of the kind ci -/
def ab_newo (ci : Nat) (fs : List Value) (nx : Nat) : ab_Op := fun ls st h => some (.inl (nx, ls, .ref h.2.1 :: st, ab_new h (.inr (ci, fs)) fs.length))
theorem ab_newo_ok {ci index N : Nat} {C : String} {T : u_T} {fs : List Value} {ty0 : Nat → FieldType} (hd : decode G.2.1 pc = .ok (.new index, 3)) (hc : vwCl[ci]? = some (C, T, N)) (hin : ∀ w ∈ u_ws C T N, w ∈ ab_wG) (hty : ∀ k, k < N → parseFieldDescriptor (T k).2.2.1 = some (ty0 k))
    (hw : ∀ w ∈ [Cond.classLink G.1.cls index C, .instantiable C N, .initialized C], w ∈ ab_wG) (hfs : ∀ j, j < N → defaultValue (ty0 j) = vp_V fs j) (hlen : fs.length = N) (hpl : fs.all ab_pl = true) : ab_OK K mt G pc (ab_newo ci fs (pc + 3)) := by
  intro p l e R s m args below meth c D cA A X ρ0 N0 k0 n0 ls st h r hop
  have X9 := X
  obtain ⟨hx, hb, hr, hml, hts, hown, hlk, hst, hnm, htb, hK, hA, hfr, hlo⟩ := X
  unfold ab_newo at hop
  cases hop
  refine ⟨⟨Nat.le_succ _, Nat.le_add_right _ _⟩, fun Q hc1 hc2 kk ρ H locs cells slots real hG hL hlo9 hso => ?_⟩
  have hG' := hG
  obtain ⟨g1, g2, g3, g4, g5, g6, g7, g8, g9, g10⟩ := hG
  have hcc : cells + 1 ≤ R.cells := by have : h.2.2.1 + 1 ≤ k0 + R.cells := hc1; omega
  have hss : slots + N ≤ R.slots := by have : h.2.2.2 + fs.length ≤ n0 + R.slots := hc2; omega
  have he : (Sum.inr (ci, fs) : va_E) = ab_e ρ cA (.inr (ci, fs)) := by simp only [ab_e, ab_plv hpl]
  refine va_new (ci := ci) (fs := fs) (C := C) (T := T) (N := N) hx hb hts hin ty0 hty hown (hts _ (hw _ (by simp))) (hts _ (hw _ (by simp))) (hts _ (hw _ (by simp))) hK (ab_toP g1) (ab_toD g2) g4 hA hc hfs hcc hss hd (fun q H1 hP1 hD1 hS1 => ?_)
  rw [he] at hP1 hD1
  rw [← ab_pushst hso]
  rw [← hlen]
  refine kk _ H1 locs (cells + 1) (slots + fs.length) real (ab_pushG hG' (ab_plok hpl) hP1 hD1 hS1) (ab_Lag hL ab_rn_lt hlo9) (fun v hv => ab_okmono (Nat.le_succ _) (hlo9 v hv)) (fun v hv => ?_)
  rcases List.mem_cons.mp hv with rfl | hv
  · exact Nat.lt_succ_self _
  · exact ab_okmono (Nat.le_succ _) (hso v hv)

def ab_newa0 (nx : Nat) : ab_Op := fun ls st h => match st with
  | .int n :: rest => if 0 ≤ n ∧ n.toNatClampNeg ≤ 60000000 then some (.inl (nx, ls, .ref h.2.1 :: rest, ab_new h (.inl (0, n.toNatClampNeg, .inl (fun _ => 0))) n.toNatClampNeg)) else none
  | _ => none
theorem ab_newa0_ok (hd : decode G.2.1 pc = .ok (.newarray .int, 2)) (hw : Cond.arrayClass .int ∈ ab_wG) : ab_OK K mt G pc (ab_newa0 (pc + 2)) := by
  intro p l e R s m args below meth c D cA A X ρ0 N0 k0 n0 ls st h r hop
  have X9 := X
  obtain ⟨hx, hb, hr, hml, hts, hown, hlk, hst, hnm, htb, hK, hA, hfr, hlo⟩ := X
  unfold ab_newa0 at hop
  split at hop
  · rename_i n rest
    split at hop
    · rename_i hguard
      cases hop
      refine ⟨⟨Nat.le_succ _, Nat.le_add_right _ _⟩, fun Q hc1 hc2 kk ρ H locs cells slots real hG hL hlo9 hso => ?_⟩
      have hG' := hG
      obtain ⟨g1, g2, g3, g4, g5, g6, g7, g8, g9, g10⟩ := hG
      have hcc : cells + 1 ≤ R.cells := by have : h.2.2.1 + 1 ≤ k0 + R.cells := hc1; omega
      have hss : slots + n.toNatClampNeg ≤ R.slots := by have : h.2.2.2 + n.toNatClampNeg ≤ n0 + R.slots := hc2; omega
      have hso' : ∀ v ∈ rest, ab_ok h.2.1 v := fun v hv => hso v (List.mem_cons_of_mem _ hv)
      refine va_newa (atype := .int) (ty := .int) (N' := n.toNatClampNeg) (a0 := (n.toNatClampNeg, .inl (fun _ => 0))) hx hb (hts _ hw) rfl hK (ab_toP g1) (ab_toD g2) g4 hA (fun _ => rfl) (Int32.not_lt.mpr hguard.1) rfl (by show n.toNatClampNeg * 4 ≤ _; omega) hcc hss hd (fun q cA9 H1 hK1 hP1 hD1 hS1 => ?_)
      have hcA : cA9 = cA 0 := Option.some.inj ((show s.vm.findClass ("[" ++ (FieldType.int).toString) = some cA9 from (hK1.2 (ab_tys cA).length (cA9, .int) (by simp)).2).symm.trans (show s.vm.findClass ("[" ++ (FieldType.int).toString) = some (cA 0) from (hK.2 0 (cA 0, .int) rfl).2))
      subst hcA
      rw [← ab_pushst hso']
      refine kk _ H1 locs (cells + 1) (slots + n.toNatClampNeg) real (ab_pushG (c := .inl (0, n.toNatClampNeg, .inl (fun _ => 0))) hG' trivial hP1 hD1 hS1) (ab_Lag hL ab_rn_lt hlo9) (fun v hv => ab_okmono (Nat.le_succ _) (hlo9 v hv)) (fun v hv => ?_)
      rcases List.mem_cons.mp hv with rfl | hv
      · exact Nat.lt_succ_self _
      · exact ab_okmono (Nat.le_succ _) (hso' v hv)
    · cases hop
  · cases hop
def ab_newa1 (nx : Nat) : ab_Op := fun ls st h => match st with
  | .int n :: rest => if 0 ≤ n ∧ n.toNatClampNeg ≤ 60000000 then some (.inl (nx, ls, .ref h.2.1 :: rest, ab_new h (.inl (1, n.toNatClampNeg, .inl (fun _ => 0))) n.toNatClampNeg)) else none
  | _ => none
theorem ab_newa1_ok (hd : decode G.2.1 pc = .ok (.newarray .boolean, 2)) (hw : Cond.arrayClass .boolean ∈ ab_wG) : ab_OK K mt G pc (ab_newa1 (pc + 2)) := by
  intro p l e R s m args below meth c D cA A X ρ0 N0 k0 n0 ls st h r hop
  have X9 := X
  obtain ⟨hx, hb, hr, hml, hts, hown, hlk, hst, hnm, htb, hK, hA, hfr, hlo⟩ := X
  unfold ab_newa1 at hop
  split at hop
  · rename_i n rest
    split at hop
    · rename_i hguard
      cases hop
      refine ⟨⟨Nat.le_succ _, Nat.le_add_right _ _⟩, fun Q hc1 hc2 kk ρ H locs cells slots real hG hL hlo9 hso => ?_⟩
      have hG' := hG
      obtain ⟨g1, g2, g3, g4, g5, g6, g7, g8, g9, g10⟩ := hG
      have hcc : cells + 1 ≤ R.cells := by have : h.2.2.1 + 1 ≤ k0 + R.cells := hc1; omega
      have hss : slots + n.toNatClampNeg ≤ R.slots := by have : h.2.2.2 + n.toNatClampNeg ≤ n0 + R.slots := hc2; omega
      have hso' : ∀ v ∈ rest, ab_ok h.2.1 v := fun v hv => hso v (List.mem_cons_of_mem _ hv)
      refine va_newa (atype := .boolean) (ty := .boolean) (N' := n.toNatClampNeg) (a0 := (n.toNatClampNeg, .inl (fun _ => 0))) hx hb (hts _ hw) rfl hK (ab_toP g1) (ab_toD g2) g4 hA (fun _ => rfl) (Int32.not_lt.mpr hguard.1) rfl (by show n.toNatClampNeg * 1 ≤ _; omega) hcc hss hd (fun q cA9 H1 hK1 hP1 hD1 hS1 => ?_)
      have hcA : cA9 = cA 1 := Option.some.inj ((show s.vm.findClass ("[" ++ (FieldType.boolean).toString) = some cA9 from (hK1.2 (ab_tys cA).length (cA9, .boolean) (by simp)).2).symm.trans (show s.vm.findClass ("[" ++ (FieldType.boolean).toString) = some (cA 1) from (hK.2 1 (cA 1, .boolean) rfl).2))
      subst hcA
      rw [← ab_pushst hso']
      refine kk _ H1 locs (cells + 1) (slots + n.toNatClampNeg) real (ab_pushG (c := .inl (1, n.toNatClampNeg, .inl (fun _ => 0))) hG' trivial hP1 hD1 hS1) (ab_Lag hL ab_rn_lt hlo9) (fun v hv => ab_okmono (Nat.le_succ _) (hlo9 v hv)) (fun v hv => ?_)
      rcases List.mem_cons.mp hv with rfl | hv
      · exact Nat.lt_succ_self _
      · exact ab_okmono (Nat.le_succ _) (hso' v hv)
    · cases hop
  · cases hop
def ab_newa2 (nx : Nat) : ab_Op := fun ls st h => match st with
  | .int n :: rest => if 0 ≤ n ∧ n.toNatClampNeg ≤ 60000000 then some (.inl (nx, ls, .ref h.2.1 :: rest, ab_new h (.inl (2, n.toNatClampNeg, .inr (.inl (fun _ => 0)))) n.toNatClampNeg)) else none
  | _ => none
theorem ab_newa2_ok (hd : decode G.2.1 pc = .ok (.newarray .long, 2)) (hw : Cond.arrayClass .long ∈ ab_wG) : ab_OK K mt G pc (ab_newa2 (pc + 2)) := by
  intro p l e R s m args below meth c D cA A X ρ0 N0 k0 n0 ls st h r hop
  have X9 := X
  obtain ⟨hx, hb, hr, hml, hts, hown, hlk, hst, hnm, htb, hK, hA, hfr, hlo⟩ := X
  unfold ab_newa2 at hop
  split at hop
  · rename_i n rest
    split at hop
    · rename_i hguard
      cases hop
      refine ⟨⟨Nat.le_succ _, Nat.le_add_right _ _⟩, fun Q hc1 hc2 kk ρ H locs cells slots real hG hL hlo9 hso => ?_⟩
      have hG' := hG
      obtain ⟨g1, g2, g3, g4, g5, g6, g7, g8, g9, g10⟩ := hG
      have hcc : cells + 1 ≤ R.cells := by have : h.2.2.1 + 1 ≤ k0 + R.cells := hc1; omega
      have hss : slots + n.toNatClampNeg ≤ R.slots := by have : h.2.2.2 + n.toNatClampNeg ≤ n0 + R.slots := hc2; omega
      have hso' : ∀ v ∈ rest, ab_ok h.2.1 v := fun v hv => hso v (List.mem_cons_of_mem _ hv)
      refine va_newa (atype := .long) (ty := .long) (N' := n.toNatClampNeg) (a0 := (n.toNatClampNeg, .inr (.inl (fun _ => 0)))) hx hb (hts _ hw) rfl hK (ab_toP g1) (ab_toD g2) g4 hA (fun _ => rfl) (Int32.not_lt.mpr hguard.1) rfl (by show n.toNatClampNeg * 8 ≤ _; omega) hcc hss hd (fun q cA9 H1 hK1 hP1 hD1 hS1 => ?_)
      have hcA : cA9 = cA 2 := Option.some.inj ((show s.vm.findClass ("[" ++ (FieldType.long).toString) = some cA9 from (hK1.2 (ab_tys cA).length (cA9, .long) (by simp)).2).symm.trans (show s.vm.findClass ("[" ++ (FieldType.long).toString) = some (cA 2) from (hK.2 2 (cA 2, .long) rfl).2))
      subst hcA
      rw [← ab_pushst hso']
      refine kk _ H1 locs (cells + 1) (slots + n.toNatClampNeg) real (ab_pushG (c := .inl (2, n.toNatClampNeg, .inr (.inl (fun _ => 0)))) hG' trivial hP1 hD1 hS1) (ab_Lag hL ab_rn_lt hlo9) (fun v hv => ab_okmono (Nat.le_succ _) (hlo9 v hv)) (fun v hv => ?_)
      rcases List.mem_cons.mp hv with rfl | hv
      · exact Nat.lt_succ_self _
      · exact ab_okmono (Nat.le_succ _) (hso' v hv)
    · cases hop
  · cases hop
def ab_newa3 (nx : Nat) : ab_Op := fun ls st h => match st with
  | .int n :: rest => if 0 ≤ n ∧ n.toNatClampNeg ≤ 60000000 then some (.inl (nx, ls, .ref h.2.1 :: rest, ab_new h (.inl (3, n.toNatClampNeg, .inl (fun _ => 0))) n.toNatClampNeg)) else none
  | _ => none
theorem ab_newa3_ok (hd : decode G.2.1 pc = .ok (.newarray .char, 2)) (hw : Cond.arrayClass .char ∈ ab_wG) : ab_OK K mt G pc (ab_newa3 (pc + 2)) := by
  intro p l e R s m args below meth c D cA A X ρ0 N0 k0 n0 ls st h r hop
  have X9 := X
  obtain ⟨hx, hb, hr, hml, hts, hown, hlk, hst, hnm, htb, hK, hA, hfr, hlo⟩ := X
  unfold ab_newa3 at hop
  split at hop
  · rename_i n rest
    split at hop
    · rename_i hguard
      cases hop
      refine ⟨⟨Nat.le_succ _, Nat.le_add_right _ _⟩, fun Q hc1 hc2 kk ρ H locs cells slots real hG hL hlo9 hso => ?_⟩
      have hG' := hG
      obtain ⟨g1, g2, g3, g4, g5, g6, g7, g8, g9, g10⟩ := hG
      have hcc : cells + 1 ≤ R.cells := by have : h.2.2.1 + 1 ≤ k0 + R.cells := hc1; omega
      have hss : slots + n.toNatClampNeg ≤ R.slots := by have : h.2.2.2 + n.toNatClampNeg ≤ n0 + R.slots := hc2; omega
      have hso' : ∀ v ∈ rest, ab_ok h.2.1 v := fun v hv => hso v (List.mem_cons_of_mem _ hv)
      refine va_newa (atype := .char) (ty := .char) (N' := n.toNatClampNeg) (a0 := (n.toNatClampNeg, .inl (fun _ => 0))) hx hb (hts _ hw) rfl hK (ab_toP g1) (ab_toD g2) g4 hA (fun _ => rfl) (Int32.not_lt.mpr hguard.1) rfl (by show n.toNatClampNeg * 2 ≤ _; omega) hcc hss hd (fun q cA9 H1 hK1 hP1 hD1 hS1 => ?_)
      have hcA : cA9 = cA 3 := Option.some.inj ((show s.vm.findClass ("[" ++ (FieldType.char).toString) = some cA9 from (hK1.2 (ab_tys cA).length (cA9, .char) (by simp)).2).symm.trans (show s.vm.findClass ("[" ++ (FieldType.char).toString) = some (cA 3) from (hK.2 3 (cA 3, .char) rfl).2))
      subst hcA
      rw [← ab_pushst hso']
      refine kk _ H1 locs (cells + 1) (slots + n.toNatClampNeg) real (ab_pushG (c := .inl (3, n.toNatClampNeg, .inl (fun _ => 0))) hG' trivial hP1 hD1 hS1) (ab_Lag hL ab_rn_lt hlo9) (fun v hv => ab_okmono (Nat.le_succ _) (hlo9 v hv)) (fun v hv => ?_)
      rcases List.mem_cons.mp hv with rfl | hv
      · exact Nat.lt_succ_self _
      · exact ab_okmono (Nat.le_succ _) (hso' v hv)
    · cases hop
  · cases hop
def ab_newa4 (nx : Nat) : ab_Op := fun ls st h => match st with
  | .int n :: rest => if 0 ≤ n ∧ n.toNatClampNeg ≤ 60000000 then some (.inl (nx, ls, .ref h.2.1 :: rest, ab_new h (.inl (4, n.toNatClampNeg, .inl (fun _ => 0))) n.toNatClampNeg)) else none
  | _ => none
theorem ab_newa4_ok (hd : decode G.2.1 pc = .ok (.newarray .byte, 2)) (hw : Cond.arrayClass .byte ∈ ab_wG) : ab_OK K mt G pc (ab_newa4 (pc + 2)) := by
  intro p l e R s m args below meth c D cA A X ρ0 N0 k0 n0 ls st h r hop
  have X9 := X
  obtain ⟨hx, hb, hr, hml, hts, hown, hlk, hst, hnm, htb, hK, hA, hfr, hlo⟩ := X
  unfold ab_newa4 at hop
  split at hop
  · rename_i n rest
    split at hop
    · rename_i hguard
      cases hop
      refine ⟨⟨Nat.le_succ _, Nat.le_add_right _ _⟩, fun Q hc1 hc2 kk ρ H locs cells slots real hG hL hlo9 hso => ?_⟩
      have hG' := hG
      obtain ⟨g1, g2, g3, g4, g5, g6, g7, g8, g9, g10⟩ := hG
      have hcc : cells + 1 ≤ R.cells := by have : h.2.2.1 + 1 ≤ k0 + R.cells := hc1; omega
      have hss : slots + n.toNatClampNeg ≤ R.slots := by have : h.2.2.2 + n.toNatClampNeg ≤ n0 + R.slots := hc2; omega
      have hso' : ∀ v ∈ rest, ab_ok h.2.1 v := fun v hv => hso v (List.mem_cons_of_mem _ hv)
      refine va_newa (atype := .byte) (ty := .byte) (N' := n.toNatClampNeg) (a0 := (n.toNatClampNeg, .inl (fun _ => 0))) hx hb (hts _ hw) rfl hK (ab_toP g1) (ab_toD g2) g4 hA (fun _ => rfl) (Int32.not_lt.mpr hguard.1) rfl (by show n.toNatClampNeg * 1 ≤ _; omega) hcc hss hd (fun q cA9 H1 hK1 hP1 hD1 hS1 => ?_)
      have hcA : cA9 = cA 4 := Option.some.inj ((show s.vm.findClass ("[" ++ (FieldType.byte).toString) = some cA9 from (hK1.2 (ab_tys cA).length (cA9, .byte) (by simp)).2).symm.trans (show s.vm.findClass ("[" ++ (FieldType.byte).toString) = some (cA 4) from (hK.2 4 (cA 4, .byte) rfl).2))
      subst hcA
      rw [← ab_pushst hso']
      refine kk _ H1 locs (cells + 1) (slots + n.toNatClampNeg) real (ab_pushG (c := .inl (4, n.toNatClampNeg, .inl (fun _ => 0))) hG' trivial hP1 hD1 hS1) (ab_Lag hL ab_rn_lt hlo9) (fun v hv => ab_okmono (Nat.le_succ _) (hlo9 v hv)) (fun v hv => ?_)
      rcases List.mem_cons.mp hv with rfl | hv
      · exact Nat.lt_succ_self _
      · exact ab_okmono (Nat.le_succ _) (hso' v hv)
    · cases hop
  · cases hop
def ab_newa5 (nx : Nat) : ab_Op := fun ls st h => match st with
  | .int n :: rest => if 0 ≤ n ∧ n.toNatClampNeg ≤ 60000000 then some (.inl (nx, ls, .ref h.2.1 :: rest, ab_new h (.inl (5, n.toNatClampNeg, .inr (.inr (.inr (.inl (fun _ => 0)))))) n.toNatClampNeg)) else none
  | _ => none
theorem ab_newa5_ok (hd : decode G.2.1 pc = .ok (.newarray .double, 2)) (hw : Cond.arrayClass .double ∈ ab_wG) : ab_OK K mt G pc (ab_newa5 (pc + 2)) := by
  intro p l e R s m args below meth c D cA A X ρ0 N0 k0 n0 ls st h r hop
  have X9 := X
  obtain ⟨hx, hb, hr, hml, hts, hown, hlk, hst, hnm, htb, hK, hA, hfr, hlo⟩ := X
  unfold ab_newa5 at hop
  split at hop
  · rename_i n rest
    split at hop
    · rename_i hguard
      cases hop
      refine ⟨⟨Nat.le_succ _, Nat.le_add_right _ _⟩, fun Q hc1 hc2 kk ρ H locs cells slots real hG hL hlo9 hso => ?_⟩
      have hG' := hG
      obtain ⟨g1, g2, g3, g4, g5, g6, g7, g8, g9, g10⟩ := hG
      have hcc : cells + 1 ≤ R.cells := by have : h.2.2.1 + 1 ≤ k0 + R.cells := hc1; omega
      have hss : slots + n.toNatClampNeg ≤ R.slots := by have : h.2.2.2 + n.toNatClampNeg ≤ n0 + R.slots := hc2; omega
      have hso' : ∀ v ∈ rest, ab_ok h.2.1 v := fun v hv => hso v (List.mem_cons_of_mem _ hv)
      refine va_newa (atype := .double) (ty := .double) (N' := n.toNatClampNeg) (a0 := (n.toNatClampNeg, .inr (.inr (.inr (.inl (fun _ => 0)))))) hx hb (hts _ hw) rfl hK (ab_toP g1) (ab_toD g2) g4 hA (fun _ => rfl) (Int32.not_lt.mpr hguard.1) rfl (by show n.toNatClampNeg * 8 ≤ _; omega) hcc hss hd (fun q cA9 H1 hK1 hP1 hD1 hS1 => ?_)
      have hcA : cA9 = cA 5 := Option.some.inj ((show s.vm.findClass ("[" ++ (FieldType.double).toString) = some cA9 from (hK1.2 (ab_tys cA).length (cA9, .double) (by simp)).2).symm.trans (show s.vm.findClass ("[" ++ (FieldType.double).toString) = some (cA 5) from (hK.2 5 (cA 5, .double) rfl).2))
      subst hcA
      rw [← ab_pushst hso']
      refine kk _ H1 locs (cells + 1) (slots + n.toNatClampNeg) real (ab_pushG (c := .inl (5, n.toNatClampNeg, .inr (.inr (.inr (.inl (fun _ => 0)))))) hG' trivial hP1 hD1 hS1) (ab_Lag hL ab_rn_lt hlo9) (fun v hv => ab_okmono (Nat.le_succ _) (hlo9 v hv)) (fun v hv => ?_)
      rcases List.mem_cons.mp hv with rfl | hv
      · exact Nat.lt_succ_self _
      · exact ab_okmono (Nat.le_succ _) (hso' v hv)
    · cases hop
  · cases hop
def ab_newr (t nx : Nat) : ab_Op := fun ls st h => match st with
  | .int n :: rest => if 0 ≤ n ∧ n.toNatClampNeg ≤ 60000000 then some (.inl (nx, ls, .ref h.2.1 :: rest, ab_new h (.inl (t, n.toNatClampNeg, .inr (.inr (.inr (.inr (fun _ => none)))))) n.toNatClampNeg)) else none
  | _ => none
theorem ab_newr_ok {t index : Nat} {C : String} (hd : decode G.2.1 pc = .ok (.anewarray index, 3)) (hty : ab_ty[t]? = some (.object C)) (hw : Cond.classLink G.1.cls index C ∈ ab_wG) (hC : C ∈ [RX1, RX4, RX5]) : ab_OK K mt G pc (ab_newr t (pc + 3)) := by
  intro p l e R s m args below meth c D cA A X ρ0 N0 k0 n0 ls st h r hop
  have X9 := X
  obtain ⟨hx, hb, hr, hml, hts, hown, hlk, hst, hnm, htb, hK, hA, hfr, hlo⟩ := X
  unfold ab_newr at hop
  split at hop
  · rename_i n rest
    split at hop
    · rename_i hguard
      cases hop
      refine ⟨⟨Nat.le_succ _, Nat.le_add_right _ _⟩, fun Q hc1 hc2 kk ρ H locs cells slots real hG hL hlo9 hso => ?_⟩
      have hG' := hG
      obtain ⟨g1, g2, g3, g4, g5, g6, g7, g8, g9, g10⟩ := hG
      have hcc : cells + 1 ≤ R.cells := by have : h.2.2.1 + 1 ≤ k0 + R.cells := hc1; omega
      have hss : slots + n.toNatClampNeg ≤ R.slots := by have : h.2.2.2 + n.toNatClampNeg ≤ n0 + R.slots := hc2; omega
      have hso' : ∀ v ∈ rest, ab_ok h.2.1 v := fun v hv => hso v (List.mem_cons_of_mem _ hv)
      refine va_newq hx hb hown (hts _ hw) (g10.2.2.2.2.2.2.2.2.2.2.2.2.2.2.2.2.2 C hC) hK (ab_toP g1) (ab_toD g2) g4 hA (Int32.not_lt.mpr hguard.1) (N' := n.toNatClampNeg) rfl (by omega) hcc hss hd (fun q cA9 H1 hK1 hP1 hD1 hS1 => ?_)
      have hcA : cA9 = cA t := by
        obtain ⟨_, _, _, _, _, e9⟩ := (hK1.2 (ab_tys cA).length (cA9, .object C) (by simp)).2
        obtain ⟨_, _, _, _, _, e8⟩ := (hK.2 t (cA t, .object C) (ab_tys_at hty)).2
        exact Option.some.inj (e9.symm.trans e8)
      subst hcA
      rw [← ab_pushst hso']
      refine kk _ H1 locs (cells + 1) (slots + n.toNatClampNeg) real (ab_pushG (c := .inl (t, n.toNatClampNeg, .inr (.inr (.inr (.inr (fun _ => none)))))) hG' (fun j i hj => by cases hj) hP1 hD1 hS1) (ab_Lag hL ab_rn_lt hlo9) (fun v hv => ab_okmono (Nat.le_succ _) (hlo9 v hv)) (fun v hv => ?_)
      rcases List.mem_cons.mp hv with rfl | hv
      · exact Nat.lt_succ_self _
      · exact ab_okmono (Nat.le_succ _) (hso' v hv)
    · cases hop
  · cases hop
/-- Object.<init> -/
def ab_oini (nx : Nat) : ab_Op := fun ls st h => match st with
  | .ref _ :: rest => if rest.length ≤ 4 then some (.inl (nx, ls, rest, h)) else none
  | _ => none
theorem ab_oini_ok {index : Nat} (hd : decode G.2.1 pc = .ok (.invokespecial index, 3)) (hw : ∀ w ∈ [Cond.methodLink G.1.cls index Lib.objectInit, .instanceMethod Lib.objectInit, .code Lib.objectInit ⟨#[0xb1]⟩ 1 none], w ∈ ab_wG) : ab_OK K mt G pc (ab_oini (pc + 3)) := by
  intro p l e R s m args below meth c D cA A X ρ0 N0 k0 n0 ls st h r hop
  have X9 := X
  obtain ⟨hx, hb, hr, hml, hts, hown, hlk, hst, hnm, htb, hK, hA, hfr, hlo⟩ := X
  unfold ab_oini at hop
  split at hop
  · split at hop
    · rename_i b rest hlen
      cases hop
      refine ab_stk (fun _ hs v hv => hs v (List.mem_cons_of_mem _ hv)) (fun Q ρ H locs cells slots real hG hL k => ?_)
      have h8 : (((rest.map (ab_v ρ)).map fun v => v.category).sum) ≤ 8 := ab_catle hlen
      exact W.objInit hx hb hown (hts _ (hw _ (by simp))) (hts _ (hw _ (by simp))) (hts _ (hw _ (by simp))) rfl (by rw [hml]; exact hL.1) rfl hd (by omega) (by show 2 * 0 + _ + 12 ≤ _; omega) k
    · cases hop
  · cases hop
def ab_mmax (nx : Nat) : ab_Op := fun ls st h => match st with
  | .int y :: .int x :: rest => if rest.length ≤ 4 then some (.inl (nx, ls, .int (if x < y then y else x) :: rest, h)) else none
  | _ => none
theorem ab_mmax_ok {index : Nat} (hd : decode G.2.1 pc = .ok (.invokestatic index, 3)) (hw : ∀ w ∈ [Cond.methodLink G.1.cls index Lib.Math.max.name, .static Lib.Math.max.name, .initialized "java/lang/Math", .code Lib.Math.max.name Lib.Math.max.code 2 (some .int)], w ∈ ab_wG) : ab_OK K mt G pc (ab_mmax (pc + 3)) := by
  intro p l e R s m args below meth c D cA A X ρ0 N0 k0 n0 ls st h r hop
  have X9 := X
  obtain ⟨hx, hb, hr, hml, hts, hown, hlk, hst, hnm, htb, hK, hA, hfr, hlo⟩ := X
  unfold ab_mmax at hop
  split at hop
  · split at hop
    · rename_i y x rest hlen
      cases hop
      refine ⟨⟨Nat.le_refl _, Nat.le_refl _⟩, fun Q hc1 hc2 kk ρ H locs cells slots real hG hL hlo9 hso => ?_⟩
      have h8 : (((rest.map (ab_v ρ)).map fun v => v.category).sum) ≤ 8 := ab_catle hlen
      refine va_mmax hx hb (by rw [hml]; exact hL.1.symm) hown (hts _ (hw _ (by simp))) (hts _ (hw _ (by simp))) (hts _ (hw _ (by simp))) (hts _ (hw _ (by simp))) (by omega) (by omega) (by have := hG.2.2.2.2.1; omega) (by have := hG.2.2.2.2.2.1; omega) hd ?_
      exact kk ρ H locs cells slots real hG hL hlo9 (fun v hv => by
        rcases List.mem_cons.mp hv with rfl | hv
        · trivial
        · exact hso v (List.mem_cons_of_mem _ (List.mem_cons_of_mem _ hv)))
    · cases hop
  · cases hop
def ab_mmin (nx : Nat) : ab_Op := fun ls st h => match st with
  | .int y :: .int x :: rest => if rest.length ≤ 4 then some (.inl (nx, ls, .int (if y < x then y else x) :: rest, h)) else none
  | _ => none
theorem ab_mmin_ok {index : Nat} (hd : decode G.2.1 pc = .ok (.invokestatic index, 3)) (hw : ∀ w ∈ [Cond.methodLink G.1.cls index Lib.Math.min.name, .static Lib.Math.min.name, .initialized "java/lang/Math", .code Lib.Math.min.name Lib.Math.min.code 2 (some .int)], w ∈ ab_wG) : ab_OK K mt G pc (ab_mmin (pc + 3)) := by
  intro p l e R s m args below meth c D cA A X ρ0 N0 k0 n0 ls st h r hop
  have X9 := X
  obtain ⟨hx, hb, hr, hml, hts, hown, hlk, hst, hnm, htb, hK, hA, hfr, hlo⟩ := X
  unfold ab_mmin at hop
  split at hop
  · split at hop
    · rename_i y x rest hlen
      cases hop
      refine ⟨⟨Nat.le_refl _, Nat.le_refl _⟩, fun Q hc1 hc2 kk ρ H locs cells slots real hG hL hlo9 hso => ?_⟩
      have h8 : (((rest.map (ab_v ρ)).map fun v => v.category).sum) ≤ 8 := ab_catle hlen
      refine va_mmin hx hb (by rw [hml]; exact hL.1.symm) hown (hts _ (hw _ (by simp))) (hts _ (hw _ (by simp))) (hts _ (hw _ (by simp))) (hts _ (hw _ (by simp))) (by omega) (by omega) (by have := hG.2.2.2.2.1; omega) (by have := hG.2.2.2.2.2.1; omega) hd ?_
      exact kk ρ H locs cells slots real hG hL hlo9 (fun v hv => by
        rcases List.mem_cons.mp hv with rfl | hv
        · trivial
        · exact hso v (List.mem_cons_of_mem _ (List.mem_cons_of_mem _ hv)))
    · cases hop
  · cases hop
/-- System.arraycopy between rows of one kind of small numbers or ints -/
def ab_acopy (t : Nat) (ty : FieldType) (nx : Nat) : ab_Op := fun ls st h => match st with
  | .int n :: .int dp :: .ref b :: .int sp :: .ref b0 :: rest => match h.1 b0, h.1 b with
    | some (.inl (t0, n0, .inl f)), some (.inl (t1, n1, .inl g)) => if t0 = t ∧ t1 = t ∧ 0 ≤ sp ∧ 0 ≤ dp ∧ 0 ≤ n ∧ sp.toNatClampNeg + n.toNatClampNeg ≤ n0 ∧ dp.toNatClampNeg + n.toNatClampNeg ≤ n1 ∧ rest.length ≤ 4 ∧ (List.range n.toNatClampNeg).all (fun i => fits ty (.int (f (sp.toNatClampNeg + i)))) = true then
        some (.inl (nx, ls, rest, ab_set h b (.inl (t, n1, .inl (va_cpy f g sp.toNatClampNeg dp.toNatClampNeg n.toNatClampNeg))))) else none
    | _, _ => none
  | _ => none
theorem ab_acopy_ok {t index : Nat} {ty : FieldType} (hd : decode G.2.1 pc = .ok (.invokestatic index, 3)) (hty : ab_ty[t]? = some ty) (hpr : refKind ty = false) (hw : ∀ w ∈ [Cond.methodLink G.1.cls index arraycopyName, .native arraycopyName, .static arraycopyName, .initialized "java/lang/System"], w ∈ ab_wG) : ab_OK K mt G pc (ab_acopy t ty (pc + 3)) := by
  intro p l e R s m args below meth c D cA A X ρ0 N0 k0 n0 ls st h r hop
  have X9 := X
  obtain ⟨hx, hb, hr, hml, hts, hown, hlk, hst, hnm, htb, hK, hA, hfr, hlo⟩ := X
  unfold ab_acopy at hop
  split at hop
  · rename_i n dp b sp b0 rest
    split at hop
    · rename_i t0 n0' f t1 n1 g hcell0 hcell1
      split at hop
      · rename_i hguard
        obtain ⟨e0, e1, q1, q2, q3, q4, q5, hlen, hfit⟩ := hguard
        subst e0
        subst e1
        cases hop
        refine ⟨⟨Nat.le_refl _, Nat.le_refl _⟩, fun Q hc1 hc2 kk ρ H locs cells slots real hG hL hlo9 hso => ?_⟩
        obtain ⟨g1, g2, g3, g4, g5, g6, g7, g8, g9, g10⟩ := hG
        obtain ⟨k0', hk0⟩ := ab_mem (ρ := ρ) (cA := cA) g3 hcell0
        obtain ⟨k1', hk1⟩ := ab_mem (ρ := ρ) (cA := cA) g3 hcell1
        have h8 : (((rest.map (ab_v ρ)).map fun v => v.category).sum) ≤ 8 := ab_catle hlen
        have hnf : nativeFrameWords "java/lang/System" "arraycopy" 5 ≤ 100 := by decide
        refine va_copyi hx hb (by rw [hml]; exact hL.1.symm) hown (hts _ (hw _ (by simp))) (hts _ (hw _ (by simp))) (hts _ (hw _ (by simp))) (hts _ (hw _ (by simp))) hK (ab_toP g1) (ab_toD g2) g4 k0' k1' t1 t1 hk0 hk1 (ab_tys_at hty) (ab_tys_at hty) hpr
          (Int32.not_lt.mpr q1) (Int32.not_lt.mpr q2) (Int32.not_lt.mpr q3) q4 q5 (fun i hi => List.all_eq_true.mp hfit i (List.mem_range.mpr hi)) (by omega) (by omega) hd (fun H1 locs1 hP1 _ hS1 => ?_)
        refine kk ρ H1 locs1 cells slots real ⟨ab_ofSet g3 g2 hcell1 hk1 hP1, ab_Dset g2 hcell1, ab_CLset g3 hcell1 trivial, hS1, g5, g6, g7, g8, g9, g10⟩ hL hlo9 (fun w hw' => hso w (by simp [hw']))
      · cases hop
    · cases hop
  · cases hop
/-- the same between rows of longs -/
def ab_acopyl (nx : Nat) : ab_Op := fun ls st h => match st with
  | .int n :: .int dp :: .ref b :: .int sp :: .ref b0 :: rest => match h.1 b0, h.1 b with
    | some (.inl (t0, n0, .inr (.inl f))), some (.inl (t1, n1, .inr (.inl g))) => if t0 = 2 ∧ t1 = 2 ∧ 0 ≤ sp ∧ 0 ≤ dp ∧ 0 ≤ n ∧ sp.toNatClampNeg + n.toNatClampNeg ≤ n0 ∧ dp.toNatClampNeg + n.toNatClampNeg ≤ n1 ∧ rest.length ≤ 4 then
        some (.inl (nx, ls, rest, ab_set h b (.inl (2, n1, .inr (.inl (va_cpy f g sp.toNatClampNeg dp.toNatClampNeg n.toNatClampNeg)))))) else none
    | _, _ => none
  | _ => none
end
