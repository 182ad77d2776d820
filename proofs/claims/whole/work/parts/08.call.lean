/-! ===== calls, ends, throws, what is made, what is given ===== -/
section
variable {K : ab_Kt} {mt : Nat → ab_M} {G : ab_M} {pc : Nat}
theorem ab_A_sub {A : Nat → Prop} {ρ : Nat → Nat} {h : ab_H} {s : State} {H : Heap} {locs : List Loc} (hd : ab_D A ρ h) (hS : va_S A s.heap H locs) (hA : ∀ q, s.heap.size ≤ q → A q) : ∀ q, ab_A ρ h H.size q → A q := by
  rintro q (⟨i, hi, rfl⟩ | hq)
  · exact hd.2 i hi
  · exact hA q (Nat.le_trans hS.1 hq)
theorem ab_Dself {A : Nat → Prop} {ρ : Nat → Nat} {h : ab_H} {sz : Nat} (hd : ab_D A ρ h) : ab_D (ab_A ρ h sz) ρ h := ⟨hd.1, fun i hi => Or.inl ⟨i, hi, rfl⟩⟩
theorem ab_Dweak {A B : Nat → Prop} {ρ : Nat → Nat} {h : ab_H} (hd : ab_D A ρ h) (hAB : ∀ q, A q → B q) : ab_D B ρ h := ⟨hd.1, fun i hi => hAB _ (hd.2 i hi)⟩
theorem ab_blind {D : va_G} {cA : Nat → ClassId} {K : ab_Kt} {ρ : Nat → Nat} {sz : Nat} {as : List Value} {h : ab_H} : FrameBlind (ab_Pc D cA K ρ sz as h) := by
  intro a U g mk q
  obtain ⟨q0, q1, q2, q3, q4, q5, q6, q7, q8⟩ := q
  exact ⟨q0, q1, q2, q3, q4, q5, q6, va_K.moved (u := U) (U := U.calling g mk a) (Vm.Alike.refl U.vm) q7, ab_F.same (u := U) (U := U.calling g mk a) rfl q8⟩
/-- a callee's start, out of the caller's world -/
theorem ab_start {p : Program} {l : Launch} {R : Room} {s : State} {m : MethodId} {args : Array Value} {meth : Method} {c : Code} {D : va_G} {cA : Nat → ClassId} {A : Nat → Prop} {K : ab_Kt} {ρ0 ρ : Nat → Nat} {N0 k0 n0 : Nat} {h : ab_H} {H : Heap} {locs : List Loc} {cells slots : Nat} {as : List Value}
    (X : ab_X G p l R s m args meth c D cA A) (hG : ab_G R s D cA A K ρ0 N0 k0 n0 h ρ H locs cells slots) (has : ∀ v ∈ as, ab_ok h.2.1 v) {U : State} (hU : U.heap = H) (hW : s.WarmedH U.vm) : ab_Pc D cA K ρ H.size as h (as.map (ab_v ρ)).toArray U := by
  obtain ⟨hx, hb, hr, hml, hts, hown, hlk, hst, hnm, htb, hK, hA, hfr, hlo⟩ := X
  obtain ⟨g1, g2, g3, g4, g5, g6, g7, g8, g9, g10⟩ := hG
  have hsub := ab_A_sub g2 g4 hA
  refine ⟨rfl, by rw [hU], by rw [hU]; exact g1, ab_Dweak g2 (fun _ _ => trivial), g3, has, Nat.le_trans g9 g7, va_K.moved hW.alike hK, ?_⟩
  rw [hU]
  refine ab_F.moved hW (ab_F.narrow (ab_F.kept g10 g4.1 (fun a h1 h2 => g4.2.1 a h1 h2)) hsub)
/-- behind a call -/
theorem ab_behind {p : Program} {l : Launch} {e : Env} {R : Room} {s : State} {m : MethodId} {args : Array Value} {below : List Frame} {meth : Method} {c : Code} {D : va_G} {cA : Nat → ClassId} {A : Nat → Prop} {K : ab_Kt} {ρ0 ρ : Nat → Nat} {N0 k0 n0 : Nat} {h h1 : ab_H} {H : Heap} {locs : List Loc} {cells slots : Nat} {as rest : List Value} {o : ab_O} {ls : ab_Ls} {real : Array Slot} {Q : State → Prop} {st0 : List Value} {a : Array Value}
    (X : ab_X G p l R s m args meth c D cA A) (hG : ab_G R s D cA A K ρ0 N0 k0 n0 h ρ H locs cells slots) (hL : ab_L real G.2.2.1 ls ρ) (hlo : ∀ v, some v ∈ ls → ab_ok h.2.1 v) (hre : ∀ v ∈ rest, ab_ok h.2.1 v) (hk : h.2.2.1 ≤ h1.2.2.1) (hn : h.2.2.2 ≤ h1.2.2.2)
    (hr : vx_Run p l e R s m args below meth c H locs cells slots (h1.2.2.1 - h.2.2.1) (h1.2.2.2 - h.2.2.2) (F0 m pc real st0) (rest.map (ab_v ρ)) (ab_Qc D cA (ab_A ρ h H.size) ρ h.2.1 o h1 a) (ab_XC D cA (ab_A ρ h H.size) ρ h.2.1 o h1) (ab_A ρ h H.size))
    (k : ab_K G p l e R s m args below meth c D cA A K ρ0 N0 k0 n0 Q pc (pc + 3) ls rest h1 o) : W p l e R s m args below meth c H locs cells slots Q (F0 m pc real st0) := by
  obtain ⟨hx, hb, hrr, hml, hts, hown, hlk, hst, hnm, htb, hK, hA, hfr, hlo9⟩ := X
  obtain ⟨g1, g2, g3, g4, g5, g6, g7, g8, g9, g10⟩ := hG
  have hsub := ab_A_sub g2 g4 hA
  intro T hT X9
  rcases hr T hT X9 with ⟨v, st₀, t, T', L9, h0, X', hL9, e1, e2, ⟨⟨v', ρ', ho, hoc, P', D', C', hN, hag, hok⟩, hF⟩, st⟩ | ⟨q, st₀, t, T', L9, E, ce, h0, X', hL9, e1, e2, ⟨⟨ρ', ho, P', D', C', hN, hag⟩, hF⟩, hce, hcv, hcl, st⟩
  · subst ho
    cases hoc
    obtain ⟨k1, k2, k3⟩ := vx_keep h0 e1 g4 (fun q _ hq => hsub q hq) hsub hL9 hF
    have hmap : (v'.map (ab_v ρ')).toList ++ rest.map (ab_v ρ) = (v'.toList ++ rest).map (ab_v ρ') := by
      rw [List.map_append]
      congr 1
      · cases v' <;> rfl
      · exact List.map_congr_left (fun w hw => (ab_vcongr hag (hre w hw)).symm)
    obtain ⟨t2, a1, b1⟩ := k ρ' T'.heap (locs ++ L9) (cells + (h1.2.2.1 - h.2.2.1)) (slots + (h1.2.2.2 - h.2.2.2)) real ⟨by rw [e1]; exact P', ab_Dweak D' hsub, C', k3, by omega, by omega, Nat.le_trans g7 hN, fun i hi => (hag i (Nat.lt_of_lt_of_le hi g7)).trans (g8 i hi), g9, ab_F.ren g10 (fun i hi => hag i (Nat.lt_of_lt_of_le hi (Nat.le_trans g9 g7)))⟩
      (ab_Lag hL hag hlo) (fun w hw => ab_okmono hN (hlo w hw)) (fun w hw => by
        rcases List.mem_append.mp hw with hw | hw
        · exact hok w (by cases v' <;> simp_all)
        · exact ab_okmono hN (hre w hw)) T' rfl X'
    rw [← hmap] at a1
    exact ⟨t2, st t2 a1, b1⟩
  · subst ho
    obtain ⟨k1, k2, k3⟩ := vx_keep h0 e1 g4 (fun q _ hq => hsub q hq) hsub hL9 hF
    obtain ⟨t2, a1, b1⟩ := k ρ' T'.heap (locs ++ L9) (cells + (h1.2.2.1 - h.2.2.1)) (slots + (h1.2.2.2 - h.2.2.2)) real (rest.map (ab_v ρ)) q ce ⟨by rw [e1]; exact P', ab_Dweak D' hsub, C', k3, by omega, by omega, Nat.le_trans g7 hN, fun i hi => (hag i (Nat.lt_of_lt_of_le hi g7)).trans (g8 i hi), g9, ab_F.ren g10 (fun i hi => hag i (Nat.lt_of_lt_of_le hi (Nat.le_trans g9 g7)))⟩
      (ab_Lag hL hag hlo) (fun w hw => ab_okmono hN (hlo w hw)) (by rw [e1]; exact hce) hcv hcl T' rfl X'
    exact ⟨t2, st.trans a1, b1⟩
theorem ab_good1 {ws : List Cond} {G' : ab_M} (h : ∀ w ∈ ws, w ∈ ab_wG) (hc : ab_wd G' ∈ ab_wG) : GoodIn ab_wG (ws ++ ab_wl G') := by
  intro w hw
  rcases List.mem_append.mp hw with h1 | h1
  · exact ab_wG_good w (h w h1)
  · rcases List.mem_cons.mp h1 with rfl | h1
    · exact ab_wG_good _ hc
    · exact ab_wG_good w h1
theorem ab_wl_code {G' : ab_M} (h : G'.2.2.2.2.1 = []) : ab_wl G' = Cond.code G'.1 G'.2.1 G'.2.2.1 G'.2.2.2.1 :: ab_wG := by
  simp only [ab_wl, ab_wd, h]
theorem ab_catle {st : List Value} {ρ : Nat → Nat} (h : st.length ≤ 4) : ((st.map (ab_v ρ)).map fun v => v.category).sum ≤ 8 := by
  have h2 : ∀ l : List Value, (l.map fun v => v.category).sum ≤ 2 * l.length := by
    intro l
    induction l with
    | nil => exact Nat.le_refl _
    | cons v l ih =>
      have : v.category ≤ 2 := by cases v <;> simp [Value.category]
      simp only [List.map_cons, List.sum_cons, List.length_cons]
      omega
  have := h2 (st.map (ab_v ρ))
  rw [List.length_map] at this
  omega
def ab_cs (st : List Value) : Bool := decide (st.length ≤ 4) || (decide (st.length ≤ 8) && st.all (fun v => v.category == 1))
theorem ab_catle2 {st : List Value} {ρ : Nat → Nat} (h : ab_cs st = true) : ((st.map (ab_v ρ)).map fun v => v.category).sum ≤ 8 := by
  unfold ab_cs at h
  simp only [Bool.or_eq_true, Bool.and_eq_true, decide_eq_true_eq] at h
  rcases h with h1 | h2
  · exact ab_catle h1
  · skip
    have h3 : ∀ l : List Value, (l.all fun v => v.category == 1) = true → ((l.map (ab_v ρ)).map fun v => v.category).sum = l.length := by
      intro l
      induction l with
      | nil => intro _; rfl
      | cons v l ih =>
        intro ha
        simp only [List.all_cons, Bool.and_eq_true] at ha
        have ha2 := ha
        have e1 : v.category = 1 := eq_of_beq ha2.1
        have e2 : (ab_v ρ v).category = 1 := by cases v <;> first | exact e1 | rfl
        simp only [List.map_cons, List.sum_cons, List.length_cons, ih ha2.2, e2]
        omega
    rw [h3 st h2.2]
    exact h2.1
/-- an instance method of our own: ci is the kind of the receiver, n how many arguments stand behind it -/
def ab_callV (ci M n nx : Nat) : ab_Op := fun ls st h => match st.drop n with
  | .ref b :: rest => match h.1 b with
    | some (.inr (c, _)) => if c = ci ∧ ab_cs rest = true then some (.inr (.inr (M, .ref b :: (st.take n).reverse, rest, nx))) else none
    | _ => none
  | _ => none
theorem ab_callV_ok {ci M n index N : Nat} {C : String} {T : u_T} (hd : decode G.2.1 pc = .ok (.invokevirtual index, 3)) (hc : vwCl[ci]? = some (C, T, N)) (hh : (mt M).2.2.2.2.1 = []) (hrk : (mt M).2.2.2.2.2 < G.2.2.2.2.2) (hmx : (mt M).2.2.1 ≤ 80)
    (hw : ∀ w ∈ [Cond.methodLink G.1.cls index (mt M).1, .instanceMethod (mt M).1, .selects C (mt M).1 (mt M).1, .initialized C], w ∈ ab_wG) (hwd : ab_wd (mt M) ∈ ab_wG) (hC : (mt M).1.cls = C)
    (hds : (mt M).1.cls ≠ "java/lang/invoke/MethodHandle" ∧ (mt M).1.cls ≠ "java/lang/invoke/VarHandle" ∧ (parseMethodDescriptor (mt M).1.desc).map (fun d => d.parameters.length) = some n) : ab_OK K mt G pc (ab_callV ci M n (pc + 3)) := by
  intro p l e R s m args below meth c D cA A X ρ0 N0 k0 n0 ls st h r hop
  have X9 := X
  obtain ⟨hx, hb, hr, hml, hts, hown, hlk, hst, hnm, htb, hK, hA, hfr, hlo⟩ := X
  unfold ab_callV at hop
  split at hop
  · rename_i b rest hdrop
    split at hop
    · rename_i c0 fs hcell
      split at hop
      · rename_i hguard
        obtain ⟨hci, hlen⟩ := hguard
        subst hci
        cases hop
        refine ⟨hrk, fun o h1 hctr hk1 hn1 Q hc1 hc2 kk ρ H locs cells slots real hG hL hlo9 hso => ?_⟩
        have hst9 : st = st.take n ++ (.ref b :: rest) := by rw [← hdrop, List.take_append_drop]
        have hn : (st.take n).length = n := by
          rw [List.length_take]
          have : (st.drop n).length ≠ 0 := by rw [hdrop]; simp
          rw [List.length_drop] at this
          omega
        have hmem : ∀ v ∈ (Value.ref b :: (st.take n).reverse), ab_ok h.2.1 v := by
          intro v hv
          rcases List.mem_cons.mp hv with rfl | hv
          · exact (hG.2.2.1 _ _ hcell).1
          · exact hso v (List.mem_of_mem_take (List.mem_reverse.mp hv))
        have hrest : ∀ v ∈ rest, ab_ok h.2.1 v := fun v hv => hso v (by rw [hst9]; exact List.mem_append_right _ (List.mem_cons_of_mem _ hv))
        obtain ⟨q0, hq0⟩ := ab_mem (ρ := ρ) (cA := cA) hG.2.2.1 hcell
        have hM := hctr l D cA ρ H.size hst
        have hcells : cells + (h1.2.2.1 - h.2.2.1) ≤ R.cells ∧ slots + (h1.2.2.2 - h.2.2.2) ≤ R.slots := by
          have a1 := hG.2.2.2.2.1
          have a2 := hG.2.2.2.2.2.1
          omega
        refine ab_behind X9 hG hL hlo9 hrest hk1 hn1 (as := []) (vx_runV (C := C) (index := index) (n := n) (b := ρ b) (As := ((st.take n).reverse).map (ab_v ρ)) (rest := rest.map (ab_v ρ)) ⟨hx, hb, hml, hown, hts⟩ hM
          (cwV n hts (ab_good1 hw hwd) (ab_wl_code hh) rfl rfl ⟨hC, hds.1, hds.2.1, hds.2.2⟩ ⟨by show 2 * _ + 8 + 1 ≤ _; omega, by show 8 + (_ + 11) + (100 * _ + 200) ≤ _; omega⟩)
          ⟨ab_blind, ?_, fun U hU hW => ab_start X9 hG hmem hU hW⟩ rfl (by rw [List.length_map, List.length_reverse, hn]) (hL.1.trans rfl) ?_ (lv_room (ab_catle2 hlen)) hd hcells) kk
        · exact va_recv hK (ab_toP hG.1) (ci := c0) (q0 := q0) hc hq0
        · show st.map (ab_v ρ) = _
          conv => lhs; rw [hst9]
          rw [List.map_append, ← List.map_reverse, List.reverse_reverse]
          rfl
      · cases hop
    · cases hop
  · cases hop
/-- a static method: n arguments -/
def ab_callS (M n nx : Nat) : ab_Op := fun ls st h => if n ≤ st.length ∧ (st.drop n).length ≤ 4 then some (.inr (.inr (M, (st.take n).reverse, st.drop n, nx))) else none
theorem ab_callS_ok {M n index : Nat} (hd : decode G.2.1 pc = .ok (.invokestatic index, 3)) (hrk : (mt M).2.2.2.2.2 < G.2.2.2.2.2) (hmx : (mt M).2.2.1 ≤ 80)
    (hw : ∀ w ∈ [Cond.methodLink G.1.cls index (mt M).1, .static (mt M).1, .initialized (mt M).1.cls], w ∈ ab_wG) (hwd : ab_wd (mt M) ∈ ab_wG) (hh : (mt M).2.2.2.2.1 = [])
    (hds : (mt M).1.cls ≠ "java/lang/invoke/MethodHandle" ∧ (mt M).1.cls ≠ "java/lang/invoke/VarHandle" ∧ (parseMethodDescriptor (mt M).1.desc).map (fun d => d.parameters.length) = some n) : ab_OK K mt G pc (ab_callS M n (pc + 3)) := by
  intro p l e R s m args below meth c D cA A X ρ0 N0 k0 n0 ls st h r hop
  have X9 := X
  obtain ⟨hx, hb, hr, hml, hts, hown, hlk, hst, hnm, htb, hK, hA, hfr, hlo⟩ := X
  unfold ab_callS at hop
  split at hop
  · rename_i hguard
    obtain ⟨hn, hlen⟩ := hguard
    cases hop
    refine ⟨hrk, fun o h1 hctr hk1 hn1 Q hc1 hc2 kk ρ H locs cells slots real hG hL hlo9 hso => ?_⟩
    have hmem : ∀ v ∈ (st.take n).reverse, ab_ok h.2.1 v := fun v hv => hso v (List.mem_of_mem_take (List.mem_reverse.mp hv))
    have hrest : ∀ v ∈ st.drop n, ab_ok h.2.1 v := fun v hv => hso v (List.mem_of_mem_drop hv)
    have hM := hctr l D cA ρ H.size hst
    have hcells : cells + (h1.2.2.1 - h.2.2.1) ≤ R.cells ∧ slots + (h1.2.2.2 - h.2.2.2) ≤ R.slots := by
      have a1 := hG.2.2.2.2.1
      have a2 := hG.2.2.2.2.2.1
      omega
    refine ab_behind X9 hG hL hlo9 hrest hk1 hn1 (as := []) (vx_runS (index := index) (n := n) (As := ((st.take n).reverse).map (ab_v ρ)) (rest := (st.drop n).map (ab_v ρ)) ⟨hx, hb, hml, hown, hts⟩ hM
      (va_cwS n hts (ab_good1 hw hwd) (ab_wl_code hh) rfl rfl ⟨hds.1, hds.2.1, hds.2.2⟩ ⟨by show 2 * _ + 8 + 1 ≤ _; omega, by show 8 + (_ + 11) + (100 * _ + 200) ≤ _; omega⟩)
      ⟨ab_blind, fun U hU hW => ab_start X9 hG hmem hU hW⟩ rfl (by rw [List.length_map, List.length_reverse, List.length_take]; omega) (hL.1.trans rfl) ?_ (lv_room (ab_catle hlen)) hd hcells) kk
    show st.map (ab_v ρ) = _
    conv => lhs; rw [← List.take_append_drop n st]
    rw [List.map_append, ← List.map_reverse, List.reverse_reverse]
  · cases hop
theorem ab_wl_codeW {G' : ab_M} {q : Nat × Nat × Nat × Nat} {hh : List (Nat × Nat × Nat × Nat)} (h : G'.2.2.2.2.1 = q :: hh) : ab_wl G' = Cond.codeWith G'.1 G'.2.1 G'.2.2.1 G'.2.2.2.1 (q :: hh) :: ab_wG := by
  simp only [ab_wl, ab_wd, h]
theorem ab_callSX_ok {M n index : Nat} {q : Nat × Nat × Nat × Nat} {hh9 : List (Nat × Nat × Nat × Nat)} (hd : decode G.2.1 pc = .ok (.invokestatic index, 3)) (hrk : (mt M).2.2.2.2.2 < G.2.2.2.2.2) (hmx : (mt M).2.2.1 ≤ 80)
    (hw : ∀ w ∈ [Cond.methodLink G.1.cls index (mt M).1, .static (mt M).1, .initialized (mt M).1.cls], w ∈ ab_wG) (hwd : ab_wd (mt M) ∈ ab_wG) (hh : (mt M).2.2.2.2.1 = q :: hh9)
    (hds : (mt M).1.cls ≠ "java/lang/invoke/MethodHandle" ∧ (mt M).1.cls ≠ "java/lang/invoke/VarHandle" ∧ (parseMethodDescriptor (mt M).1.desc).map (fun d => d.parameters.length) = some n) : ab_OK K mt G pc (ab_callS M n (pc + 3)) := by
  intro p l e R s m args below meth c D cA A X ρ0 N0 k0 n0 ls st h r hop
  have X9 := X
  obtain ⟨hx, hb, hr, hml, hts, hown, hlk, hst, hnm, htb, hK, hA, hfr, hlo⟩ := X
  unfold ab_callS at hop
  split at hop
  · rename_i hguard
    obtain ⟨hn, hlen⟩ := hguard
    cases hop
    refine ⟨hrk, fun o h1 hctr hk1 hn1 Q hc1 hc2 kk ρ H locs cells slots real hG hL hlo9 hso => ?_⟩
    have hmem : ∀ v ∈ (st.take n).reverse, ab_ok h.2.1 v := fun v hv => hso v (List.mem_of_mem_take (List.mem_reverse.mp hv))
    have hrest : ∀ v ∈ st.drop n, ab_ok h.2.1 v := fun v hv => hso v (List.mem_of_mem_drop hv)
    have hM := hctr l D cA ρ H.size hst
    have hcells : cells + (h1.2.2.1 - h.2.2.1) ≤ R.cells ∧ slots + (h1.2.2.2 - h.2.2.2) ≤ R.slots := by
      have a1 := hG.2.2.2.2.1
      have a2 := hG.2.2.2.2.2.1
      omega
    refine ab_behind X9 hG hL hlo9 hrest hk1 hn1 (as := []) (vx_runSX (hh := q :: hh9) (index := index) (n := n) (As := ((st.take n).reverse).map (ab_v ρ)) (rest := (st.drop n).map (ab_v ρ)) ⟨hx, hb, hml, hown, hts⟩ hM
      (vx_cwSW n hts (ab_good1 hw hwd) (ab_wl_codeW hh) rfl rfl ⟨hds.1, hds.2.1, hds.2.2⟩ ⟨by show 2 * _ + 8 + 1 ≤ _; omega, by show 8 + (_ + 11) + (100 * _ + 200) ≤ _; omega⟩)
      ⟨ab_blind, fun U hU hW => ab_start X9 hG hmem hU hW⟩ rfl (by rw [List.length_map, List.length_reverse, List.length_take]; omega) (hL.1.trans rfl) ?_ (lv_room (ab_catle hlen)) hd hcells) kk
    show st.map (ab_v ρ) = _
    conv => lhs; rw [← List.take_append_drop n st]
    rw [List.map_append, ← List.map_reverse, List.reverse_reverse]
  · cases hop
/-- a constructor -/
def ab_callI (M n nx : Nat) : ab_Op := fun ls st h => match st.drop n with
  | .ref b :: rest => if rest.length ≤ 4 then some (.inr (.inr (M, .ref b :: (st.take n).reverse, rest, nx))) else none
  | _ => none
theorem ab_callI_ok {M n index : Nat} (hd : decode G.2.1 pc = .ok (.invokespecial index, 3)) (hh : (mt M).2.2.2.2.1 = []) (hrk : (mt M).2.2.2.2.2 < G.2.2.2.2.2) (hmx : (mt M).2.2.1 ≤ 80) (hwd : ab_wd (mt M) ∈ ab_wG)
    (hw : ∀ w ∈ [Cond.methodLink G.1.cls index (mt M).1, .instanceMethod (mt M).1, .initialized (mt M).1.cls], w ∈ ab_wG) (hret : (mt M).2.2.2.1 = none)
    (hds : (mt M).1.name = "<init>" ∧ (mt M).1.cls ≠ "java/lang/invoke/MethodHandle" ∧ (mt M).1.cls ≠ "java/lang/invoke/VarHandle" ∧ (parseMethodDescriptor (mt M).1.desc).map (fun d => d.parameters.length) = some n) : ab_OK K mt G pc (ab_callI M n (pc + 3)) := by
  intro p l e R s m args below meth c D cA A X ρ0 N0 k0 n0 ls st h r hop
  have X9 := X
  obtain ⟨hx, hb, hr, hml, hts, hown, hlk, hst, hnm, htb, hK, hA, hfr, hlo⟩ := X
  unfold ab_callI at hop
  split at hop
  · rename_i b rest hdrop
    · split at hop
      · rename_i hlen
        cases hop
        refine ⟨hrk, fun o h1 hctr hk1 hn1 Q hc1 hc2 kk ρ H locs cells slots real hG hL hlo9 hso => ?_⟩
        have hst9 : st = st.take n ++ (.ref b :: rest) := by rw [← hdrop, List.take_append_drop]
        have hn : (st.take n).length = n := by
          rw [List.length_take]
          have : (st.drop n).length ≠ 0 := by rw [hdrop]; simp
          rw [List.length_drop] at this
          omega
        have hmem : ∀ v ∈ (Value.ref b :: (st.take n).reverse), ab_ok h.2.1 v := by
          intro v hv
          rcases List.mem_cons.mp hv with rfl | hv
          · exact hso _ (by rw [hst9]; exact List.mem_append_right _ List.mem_cons_self)
          · exact hso v (List.mem_of_mem_take (List.mem_reverse.mp hv))
        have hrest : ∀ v ∈ rest, ab_ok h.2.1 v := fun v hv => hso v (by rw [hst9]; exact List.mem_append_right _ (List.mem_cons_of_mem _ hv))
        have hM := hctr l D cA ρ H.size hst
        have hcells : cells + (h1.2.2.1 - h.2.2.1) ≤ R.cells ∧ slots + (h1.2.2.2 - h.2.2.2) ≤ R.slots := by
          have a1 := hG.2.2.2.2.1
          have a2 := hG.2.2.2.2.2.1
          omega
        have hw8 : ab_wl (mt M) = Cond.code (mt M).1 (mt M).2.1 (mt M).2.2.1 none :: ab_wG := by rw [ab_wl_code hh, hret]
        refine ab_behind X9 hG hL hlo9 hrest hk1 hn1 (as := []) (vx_runI (index := index) (n := n) (b := ρ b) (As := ((st.take n).reverse).map (ab_v ρ)) (rest := rest.map (ab_v ρ)) ⟨hx, hb, hml, hown, hts⟩ hM
          (cwI n hts (fun w hw9 => by rcases List.mem_cons.mp hw9 with rfl | h9; exact ab_wG_good _ hwd; exact ab_wG_good w h9) hw8 rfl rfl (hts _ (hw _ (by simp))) (hts _ (hw _ (by simp))) (hts _ (hw _ (by simp))) hds.1 ⟨hds.2.1, hds.2.2.1, hds.2.2.2⟩ ⟨by show 2 * _ + 8 + 1 ≤ _; omega, by show 8 + (_ + 11) + (100 * _ + 200) ≤ _; omega⟩)
          ⟨ab_blind, fun U hU hW => ab_start X9 hG hmem hU hW⟩ rfl (by rw [List.length_map, List.length_reverse, hn]) (hL.1.trans rfl) ?_ (lv_room (ab_catle hlen)) hd hcells) kk
        show st.map (ab_v ρ) = _
        conv => lhs; rw [hst9]
        rw [List.map_append, ← List.map_reverse, List.reverse_reverse]
        rfl
      · cases hop
  · cases hop
/-- a method that the class of the receiver inherits, and one of the superclass by 'super' -/
theorem ab_callU_ok {ci M n index N : Nat} {C : String} {T : u_T} (hc : vwCl[ci]? = some (C, T, N)) (hd : decode G.2.1 pc = .ok (.invokevirtual index, 3)) (hh : (mt M).2.2.2.2.1 = []) (hrk : (mt M).2.2.2.2.2 < G.2.2.2.2.2) (hmx : (mt M).2.2.1 ≤ 80) (hwd : ab_wd (mt M) ∈ ab_wG)
    (hw : ∀ w ∈ [Cond.methodLink G.1.cls index (mt M).1, .sameMethod (mt M).1.cls (mt M).1.cls (mt M).1.name (mt M).1.desc, .selects C (mt M).1 (mt M).1, .instanceMethod (mt M).1, .initialized (mt M).1.cls], w ∈ ab_wG)
    (hds : (mt M).1.cls ≠ "java/lang/invoke/MethodHandle" ∧ (mt M).1.cls ≠ "java/lang/invoke/VarHandle" ∧ (parseMethodDescriptor (mt M).1.desc).map (fun d => d.parameters.length) = some n) : ab_OK K mt G pc (ab_callV ci M n (pc + 3)) := by
  intro p l e R s m args below meth c D cA A X ρ0 N0 k0 n0 ls st h r hop
  have X9 := X
  obtain ⟨hx, hb, hr, hml, hts, hown, hlk, hst, hnm, htb, hK, hA, hfr, hlo⟩ := X
  unfold ab_callV at hop
  split at hop
  · rename_i b rest hdrop
    split at hop
    · rename_i c0 fs hcell
      split at hop
      · rename_i hguard
        obtain ⟨hci, hlen⟩ := hguard
        subst hci
        cases hop
        refine ⟨hrk, fun o h1 hctr hk1 hn1 Q hc1 hc2 kk ρ H locs cells slots real hG hL hlo9 hso => ?_⟩
        have hst9 : st = st.take n ++ (.ref b :: rest) := by rw [← hdrop, List.take_append_drop]
        have hn : (st.take n).length = n := by
          rw [List.length_take]
          have : (st.drop n).length ≠ 0 := by rw [hdrop]; simp
          rw [List.length_drop] at this
          omega
        have hmem : ∀ v ∈ (Value.ref b :: (st.take n).reverse), ab_ok h.2.1 v := by
          intro v hv
          rcases List.mem_cons.mp hv with rfl | hv
          · exact hso _ (by rw [hst9]; exact List.mem_append_right _ List.mem_cons_self)
          · exact hso v (List.mem_of_mem_take (List.mem_reverse.mp hv))
        have hrest : ∀ v ∈ rest, ab_ok h.2.1 v := fun v hv => hso v (by rw [hst9]; exact List.mem_append_right _ (List.mem_cons_of_mem _ hv))
        have hM := hctr l D cA ρ H.size hst
        have hcells : cells + (h1.2.2.1 - h.2.2.1) ≤ R.cells ∧ slots + (h1.2.2.2 - h.2.2.2) ≤ R.slots := by
          have a1 := hG.2.2.2.2.1
          have a2 := hG.2.2.2.2.2.1
          omega
        obtain ⟨q0, hq0⟩ := ab_mem (ρ := ρ) (cA := cA) hG.2.2.1 hcell
        refine ab_behind X9 hG hL hlo9 hrest hk1 hn1 (as := []) (vx_runU (C := C) (index := index) (n := n) (b := ρ b) (As := ((st.take n).reverse).map (ab_v ρ)) (rest := rest.map (ab_v ρ)) ⟨hx, hb, hml, hown, hts⟩ hM
          (va_cwU (owner := (mt M).1.cls) (x := (mt M).1) (y := (mt M).1) n hts (ab_good1 hw hwd) (ab_wl_code hh) rfl rfl rfl ⟨hds.1, hds.2.1, hds.2.2⟩ ⟨by show 2 * _ + 8 + 1 ≤ _; omega, by show 8 + (_ + 11) + (100 * _ + 200) ≤ _; omega⟩)
          ⟨ab_blind, va_recv hK (ab_toP hG.1) (ci := c0) (q0 := q0) hc hq0, fun U hU hW => ab_start X9 hG hmem hU hW⟩ rfl (by rw [List.length_map, List.length_reverse, hn]) (hL.1.trans rfl) ?_ (lv_room (ab_catle2 hlen)) hd hcells) kk
        show st.map (ab_v ρ) = _
        conv => lhs; rw [hst9]
        rw [List.map_append, ← List.map_reverse, List.reverse_reverse]
        rfl
      · cases hop
    · cases hop
  · cases hop
theorem ab_callSU_ok {ci M n index N : Nat} {C : String} {T : u_T} (hc : vwCl[ci]? = some (C, T, N)) (hd : decode G.2.1 pc = .ok (.invokespecial index, 3)) (hh : (mt M).2.2.2.2.1 = []) (hrk : (mt M).2.2.2.2.2 < G.2.2.2.2.2) (hmx : (mt M).2.2.1 ≤ 80) (hwd : ab_wd (mt M) ∈ ab_wG)
    (hw : ∀ w ∈ [Cond.methodLink G.1.cls index (mt M).1, .sameMethod (mt M).1.cls (mt M).1.cls (mt M).1.name (mt M).1.desc, .superclass G.1.cls (mt M).1.cls, .instanceMethod (mt M).1, .initialized (mt M).1.cls], w ∈ ab_wG)
    (hds : (mt M).1.name ≠ "<init>" ∧ (parseMethodDescriptor (mt M).1.desc).map (fun d => d.parameters.length) = some n) : ab_OK K mt G pc (ab_callV ci M n (pc + 3)) := by
  intro p l e R s m args below meth c D cA A X ρ0 N0 k0 n0 ls st h r hop
  have X9 := X
  obtain ⟨hx, hb, hr, hml, hts, hown, hlk, hst, hnm, htb, hK, hA, hfr, hlo⟩ := X
  unfold ab_callV at hop
  split at hop
  · rename_i b rest hdrop
    split at hop
    · rename_i c0 fs hcell
      split at hop
      · rename_i hguard
        obtain ⟨hci, hlen⟩ := hguard
        subst hci
        cases hop
        refine ⟨hrk, fun o h1 hctr hk1 hn1 Q hc1 hc2 kk ρ H locs cells slots real hG hL hlo9 hso => ?_⟩
        have hst9 : st = st.take n ++ (.ref b :: rest) := by rw [← hdrop, List.take_append_drop]
        have hn : (st.take n).length = n := by
          rw [List.length_take]
          have : (st.drop n).length ≠ 0 := by rw [hdrop]; simp
          rw [List.length_drop] at this
          omega
        have hmem : ∀ v ∈ (Value.ref b :: (st.take n).reverse), ab_ok h.2.1 v := by
          intro v hv
          rcases List.mem_cons.mp hv with rfl | hv
          · exact hso _ (by rw [hst9]; exact List.mem_append_right _ List.mem_cons_self)
          · exact hso v (List.mem_of_mem_take (List.mem_reverse.mp hv))
        have hrest : ∀ v ∈ rest, ab_ok h.2.1 v := fun v hv => hso v (by rw [hst9]; exact List.mem_append_right _ (List.mem_cons_of_mem _ hv))
        have hM := hctr l D cA ρ H.size hst
        have hcells : cells + (h1.2.2.1 - h.2.2.1) ≤ R.cells ∧ slots + (h1.2.2.2 - h.2.2.2) ≤ R.slots := by
          have a1 := hG.2.2.2.2.1
          have a2 := hG.2.2.2.2.2.1
          omega
        obtain ⟨q0, hq0⟩ := ab_mem (ρ := ρ) (cA := cA) hG.2.2.1 hcell
        refine ab_behind X9 hG hL hlo9 hrest hk1 hn1 (as := []) (vx_runSU (C := C) (index := index) (n := n) (b := ρ b) (As := ((st.take n).reverse).map (ab_v ρ)) (rest := rest.map (ab_v ρ)) (hK.1 c0 _ hc).2 ⟨hx, hb, hml, hown, hts⟩ hM
          (va_cwSU n hts (ab_good1 hw hwd) (ab_wl_code hh) rfl rfl ⟨hds.1, hds.2⟩ ⟨by show 2 * _ + 8 + 1 ≤ _; omega, by show 8 + (_ + 11) + (100 * _ + 200) ≤ _; omega⟩)
          ⟨ab_blind, va_recv hK (ab_toP hG.1) (ci := c0) (q0 := q0) hc hq0, fun U hU hW => ab_start X9 hG hmem hU hW⟩ rfl (by rw [List.length_map, List.length_reverse, hn]) (hL.1.trans rfl) ?_ (lv_room (ab_catle2 hlen)) hd hcells) kk
        show st.map (ab_v ρ) = _
        conv => lhs; rw [hst9]
        rw [List.map_append, ← List.map_reverse, List.reverse_reverse]
        rfl
      · cases hop
    · cases hop
  · cases hop
end
