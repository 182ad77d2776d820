/-! ===== two more calls; the run of the abstract machine, and that the machine does what it says ===== -/
section
variable {K : ab_Kt} {mt : Nat → ab_M} {G : ab_M} {pc : Nat}
/-- a private constructor of a nest mate -/
theorem ab_callIN_ok {M n index : Nat} {host : String} (hd : decode G.2.1 pc = .ok (.invokespecial index, 3)) (hh : (mt M).2.2.2.2.1 = []) (hrk : (mt M).2.2.2.2.2 < G.2.2.2.2.2) (hmx : (mt M).2.2.1 ≤ 80) (hwd : ab_wd (mt M) ∈ ab_wG)
    (hw : ∀ w ∈ [Cond.instanceMethod (mt M).1, .initialized (mt M).1.cls], w ∈ ab_wG) (hnw : Cond.methodLinkNest G.1.cls index (mt M).1 host ∈ ab_nw) (hret : (mt M).2.2.2.1 = none)
    (hds : (mt M).1.name = "<init>" ∧ (mt M).1.cls ≠ "java/lang/invoke/MethodHandle" ∧ (mt M).1.cls ≠ "java/lang/invoke/VarHandle" ∧ (parseMethodDescriptor (mt M).1.desc).map (fun d => d.parameters.length) = some n) : ab_OK K mt G pc (ab_callI M n (pc + 3)) := by
  intro p l e R s m args below meth c D cA A X ρ0 N0 k0 n0 ls st h r hop
  have X9 := X
  obtain ⟨hx, hb, hr, hml, hts, hown, hlk, hst, hnm, htb, hK, hA, hfr, hlo⟩ := X
  unfold ab_callI at hop
  split at hop
  · rename_i b rest hdrop
    split at hop
    · rename_i hlen
      cases hop
      refine ⟨hrk, fun o h1 hctr hk1 hn1 Q hc1 hc2 kk ρ H locs cells slots real hG hL hlo9 hso => ?_⟩
      have hst9 : st = st.take n ++ (.ref b :: rest) := by rw [← hdrop, List.take_append_drop]
      have hn : (st.take n).length = n := by
        rw [List.length_take]
        have : (st.drop n).length ≠ 0 := by rw [hdrop]; simp
        rw [List.length_drop] at this
        omega
      have hmem : ∀ v ∈ (Value.ref b :: (st.take n).reverse), ab_ok h.2.1 v := by
        intro v hv
        rcases List.mem_cons.mp hv with rfl | hv
        · exact hso _ (by rw [hst9]; exact List.mem_append_right _ List.mem_cons_self)
        · exact hso v (List.mem_of_mem_take (List.mem_reverse.mp hv))
      have hrest : ∀ v ∈ rest, ab_ok h.2.1 v := fun v hv => hso v (by rw [hst9]; exact List.mem_append_right _ (List.mem_cons_of_mem _ hv))
      have hM := hctr l D cA ρ H.size hst
      have hcells : cells + (h1.2.2.1 - h.2.2.1) ≤ R.cells ∧ slots + (h1.2.2.2 - h.2.2.2) ≤ R.slots := by
        have a1 := hG.2.2.2.2.1
        have a2 := hG.2.2.2.2.2.1
        omega
      have hw8 : ab_wl (mt M) = Cond.code (mt M).1 (mt M).2.1 (mt M).2.2.1 none :: ab_wG := by rw [ab_wl_code hh, hret]
      have hN : va_Nw (.methodLinkNest G.1.cls index (mt M).1 host) s := hG.2.2.2.2.2.2.2.2.2.2.2.2.2.2.2.2.2.2.2.2.2.2.2.2.1 _ hnw
      refine ab_behind X9 hG hL hlo9 hrest hk1 hn1 (as := []) (vx_runIN (index := index) (n := n) (b := ρ b) (As := ((st.take n).reverse).map (ab_v ρ)) (rest := rest.map (ab_v ρ)) ⟨hx, hb, hml, hown, hts⟩ hM
        ⟨va_cnB n hts (fun w hw9 => by rcases List.mem_cons.mp hw9 with rfl | h9; exact ab_wG_good _ hwd; exact ab_wG_good w h9) hw8 rfl rfl hN (hts _ (hw _ (by simp))) ⟨hds.2.1, hds.2.2.1, hds.2.2.2⟩ ⟨by show 2 * _ + 8 + 1 ≤ _; omega, by show 8 + (_ + 11) + (100 * _ + 200) ≤ _; omega⟩, hds.1, hts _ (hw _ (by simp))⟩
        ⟨ab_blind, fun U hU hW => ab_start X9 hG hmem hU hW⟩ rfl (by rw [List.length_map, List.length_reverse, hn]) (hL.1.trans rfl) ?_ (lv_room (ab_catle hlen)) hd hcells) kk
      show st.map (ab_v ρ) = _
      conv => lhs; rw [hst9]
      rw [List.map_append, ← List.map_reverse, List.reverse_reverse]
      rfl
    · cases hop
  · cases hop
/-- a method of a given text -/
def ab_callT (M n nx : Nat) : ab_Op := fun ls st h => match st.drop n with
  | .ref b :: rest => if (b = 4 + 2 * ab_sid b ∧ ab_sid b < 6) ∧ rest.length ≤ 4 then some (.inr (.inr (M, .ref b :: (st.take n).reverse, rest, nx))) else none
  | _ => none
theorem ab_callT_ok {M n index : Nat} (hd : decode G.2.1 pc = .ok (.invokevirtual index, 3)) (hh : (mt M).2.2.2.2.1 = []) (hrk : (mt M).2.2.2.2.2 < G.2.2.2.2.2) (hmx : (mt M).2.2.1 ≤ 80)
    (hw : ∀ w ∈ [Cond.methodLink G.1.cls index (mt M).1, .instanceMethod (mt M).1, .selects "java/lang/String" (mt M).1 (mt M).1, .initialized "java/lang/String"], w ∈ ab_wG) (hwd : ab_wd (mt M) ∈ ab_wG) (hC : (mt M).1.cls = "java/lang/String")
    (hds : (mt M).1.cls ≠ "java/lang/invoke/MethodHandle" ∧ (mt M).1.cls ≠ "java/lang/invoke/VarHandle" ∧ (parseMethodDescriptor (mt M).1.desc).map (fun d => d.parameters.length) = some n) : ab_OK K mt G pc (ab_callT M n (pc + 3)) := by
  intro p l e R s m args below meth c D cA A X ρ0 N0 k0 n0 ls st h r hop
  have X9 := X
  obtain ⟨hx, hb, hr, hml, hts, hown, hlk, hst, hnm, htb, hK, hA, hfr, hlo⟩ := X
  unfold ab_callT at hop
  split at hop
  · rename_i b rest hdrop
    split at hop
    · rename_i hguard
      obtain ⟨⟨hb1, hb2⟩, hlen⟩ := hguard
      cases hop
      refine ⟨hrk, fun o h1 hctr hk1 hn1 Q hc1 hc2 kk ρ H locs cells slots real hG hL hlo9 hso => ?_⟩
      have hst9 : st = st.take n ++ (.ref b :: rest) := by rw [← hdrop, List.take_append_drop]
      have hn : (st.take n).length = n := by
        rw [List.length_take]
        have : (st.drop n).length ≠ 0 := by rw [hdrop]; simp
        rw [List.length_drop] at this
        omega
      have hmem : ∀ v ∈ (Value.ref b :: (st.take n).reverse), ab_ok h.2.1 v := by
        intro v hv
        rcases List.mem_cons.mp hv with rfl | hv
        · exact hso _ (by rw [hst9]; exact List.mem_append_right _ List.mem_cons_self)
        · exact hso v (List.mem_of_mem_take (List.mem_reverse.mp hv))
      have hrest : ∀ v ∈ rest, ab_ok h.2.1 v := fun v hv => hso v (by rw [hst9]; exact List.mem_append_right _ (List.mem_cons_of_mem _ hv))
      have hM := hctr l D cA ρ H.size hst
      have hcells : cells + (h1.2.2.1 - h.2.2.1) ≤ R.cells ∧ slots + (h1.2.2.2 - h.2.2.2) ≤ R.slots := by
        have a1 := hG.2.2.2.2.1
        have a2 := hG.2.2.2.2.2.1
        omega
      have hF := hG.2.2.2.2.2.2.2.2.2.2.2.2.2.2.2.2.2.2.2.2.2.2.1
      have hrv := vk_recv hF hb2 hG.2.2.2.1
      rw [← hb1] at hrv
      refine ab_behind X9 hG hL hlo9 hrest hk1 hn1 (as := []) (vx_runV (C := "java/lang/String") (index := index) (n := n) (b := ρ b) (As := ((st.take n).reverse).map (ab_v ρ)) (rest := rest.map (ab_v ρ)) ⟨hx, hb, hml, hown, hts⟩ hM
        (cwV n hts (ab_good1 hw hwd) (ab_wl_code hh) rfl rfl ⟨hC, hds.1, hds.2.1, hds.2.2⟩ ⟨by show 2 * _ + 8 + 1 ≤ _; omega, by show 8 + (_ + 11) + (100 * _ + 200) ≤ _; omega⟩)
        ⟨ab_blind, hrv, fun U hU hW => ab_start X9 hG hmem hU hW⟩ rfl (by rw [List.length_map, List.length_reverse, hn]) (hL.1.trans rfl) ?_ (lv_room (ab_catle hlen)) hd hcells) kk
      show st.map (ab_v ρ) = _
      conv => lhs; rw [hst9]
      rw [List.map_append, ← List.map_reverse, List.reverse_reverse]
      rfl
    · cases hop
  · cases hop
end
/-- a method's locals at its start -/
def ab_ent (n : Nat) (as : List Value) : ab_Ls := as.map some ++ List.replicate (n - as.length) none
def ab_a1 (n : Nat) (as : List Value) : Bool := as.all (fun v => v.category == 1) && decide (as.length ≤ n)
/-- a caught thing has an id -/
def ab_ct (h : ab_H) : ab_H := (h.1, h.2.1 + 1, h.2.2)
/-- a method's table: which exceptions go on (some none), which are caught where -/
def ab_HOK (G : ab_M) (hn : Nat → String → Option (Option Nat)) : Prop := ∀ pc E, (hn pc E = some none → G.2.2.2.2.1 = []) ∧ ∀ ph, hn pc E = some (some ph) → ∃ pre x suf, tableOf G.2.2.2.2.1 = pre ++ x :: suf ∧
  (∀ z ∈ pre, covers z pc = false ∨ (z.catchType ≠ 0 ∧ ∃ nm : String, Cond.classLink G.1.cls z.catchType nm ∈ ab_wG ∧ (E, nm) ∈ ab_nc)) ∧ covers x pc = true ∧ x.catchType ≠ 0 ∧ Cond.classLink G.1.cls x.catchType E ∈ ab_wG ∧ Cond.castable E E ∈ ab_nw ∧ x.handlerPc = ph
def ab_run (P : Nat → Nat → ab_Op) (mx : Nat → Nat) (hn : Nat → Nat → String → Option (Option Nat)) : Nat → Nat → Nat → ab_Ls → List Value → ab_H → Option (ab_O × ab_H)
  | 0, _, _, _, _, _ => none
  | f + 1, M, pc, ls, st, h => match P M pc ls st h with
    | none => none
    | some (.inl (pc', ls', st', h')) => ab_run P mx hn f M pc' ls' st' h'
    | some (.inr (.inl r)) => some r
    | some (.inr (.inr (M', as, rest, pc'))) => if ab_a1 (mx M') as = true then
        match ab_run P mx hn f M' 0 (ab_ent (mx M') as) [] h with
        | none => none
        | some (.inl v, h1) => if h.2.2.1 ≤ h1.2.2.1 ∧ h.2.2.2 ≤ h1.2.2.2 then ab_run P mx hn f M pc' ls (v.toList ++ rest) h1 else none
        | some (.inr E, h1) => if h.2.2.1 ≤ h1.2.2.1 ∧ h.2.2.2 ≤ h1.2.2.2 then
            match hn M pc E with
            | none => none
            | some none => some (.inr E, h1)
            | some (some ph) => ab_run P mx hn f M ph ls [.ref h1.2.1] (ab_ct h1)
          else none
      else none
section
variable {K : ab_Kt} {mt : Nat → ab_M} {P : Nat → Nat → ab_Op} {mx : Nat → Nat} {hn : Nat → Nat → String → Option (Option Nat)}
/-- not caught here -/
theorem ab_pass {G : ab_M} {p : Program} {l : Launch} {e : Env} {R : Room} {s : State} {m : MethodId} {args : Array Value} {below : List Frame} {meth : Method} {c : Code} {D : va_G} {cA : Nat → ClassId} {A : Nat → Prop} (X : ab_X G p l R s m args meth c D cA A) (hh : G.2.2.2.2.1 = []) {ρ0 : Nat → Nat} {N0 k0 n0 : Nat} {pc : Nat} {ls : ab_Ls} {E : String} {h : ab_H} (hc1 : h.2.2.1 ≤ k0 + R.cells) (hc2 : h.2.2.2 ≤ n0 + R.slots) :
    ab_V G p l e R s m args below meth c D cA A K ρ0 N0 k0 n0 (vx_MQ below (ab_Qc D cA A ρ0 N0 (.inr E) h) (ab_XC D cA A ρ0 N0 (.inr E) h) args s R.cells R.slots A) pc ls E h := by
  obtain ⟨hx, hb, hr, hml, hts, hown, hlk, hst, hnm, htb, hK, hA, hfr, hlo⟩ := X
  intro ρ H locs cells slots real rest q ce hG hL hlo9 hce hcv hcl
  obtain ⟨g1, g2, g3, g4, g5, g6, g7, g8, g9, g10⟩ := hG
  exact vx_out (by rw [htb, hh]; intro x hx9; cases hx9) hlk hce hcv hcl (fun t ht hal => ⟨⟨ρ, rfl, by rw [ht]; exact g1, g2, g3, g7, g8⟩, g4.F ht⟩) g4.2.2 (by omega) (by omega)
/-- caught here -/
theorem ab_caught {G : ab_M} {p : Program} {l : Launch} {e : Env} {R : Room} {s : State} {m : MethodId} {args : Array Value} {below : List Frame} {meth : Method} {c : Code} {D : va_G} {cA : Nat → ClassId} {A : Nat → Prop} (X : ab_X G p l R s m args meth c D cA A) {hn1 : Nat → String → Option (Option Nat)} (hH : ab_HOK G hn1) {ρ0 : Nat → Nat} {N0 k0 n0 : Nat} {pc ph : Nat} {ls : ab_Ls} {E : String} {h : ab_H} {Q : State → Prop} (hph : hn1 pc E = some (some ph))
    (k : ab_W G p l e R s m args below meth c D cA A K ρ0 N0 k0 n0 Q ph ls [.ref h.2.1] (ab_ct h)) : ab_V G p l e R s m args below meth c D cA A K ρ0 N0 k0 n0 Q pc ls E h := by
  obtain ⟨hx, hb, hr, hml, hts, hown, hlk, hst, hnm, htb, hK, hA, hfr, hlo⟩ := X
  obtain ⟨pre, x, suf, hsp, hpre, hcov, hct, hlink, hcas, rfl⟩ := (hH pc E).2 ph hph
  intro ρ H locs cells slots real rest q ce hG hL hlo9 hce hcv hcl
  obtain ⟨g1, g2, g3, g4, g5, g6, g7, g8, g9, g10⟩ := hG
  have hN : ab_N s := g10.2.2.2.2.2.2.2.2.2.2.2.2.2.2.2
  refine vx_catch (name := E) hown pre x suf (htb.trans hsp) (fun z hz => ?_) hcov hct (hts _ hlink) (va_Nw.use (ab_nw_tab hcas) (hN.1 _ hcas)) hce hcv hcl ?_
  · rcases hpre z hz with h1 | ⟨h1, nm, h2, h3⟩
    · exact Or.inl h1
    · exact Or.inr ⟨h1, nm, hts _ h2, hN.2.1 _ h3⟩
  · have hlt : ∀ i, (h.1 i).isSome = true → i < h.2.1 := by
      intro i hi
      cases hx : h.1 i with
      | none => rw [hx] at hi; cases hi
      | some x => exact (g3 i x hx).1
    have hst1 : [Value.ref h.2.1].map (ab_v (ab_rn ρ h.2.1 q)) = [.ref q] := by
      show [Value.ref (ab_rn ρ h.2.1 q h.2.1)] = _
      rw [show ab_rn ρ h.2.1 q h.2.1 = q from if_pos rfl]
    rw [← hst1]
    refine k (ab_rn ρ h.2.1 q) H locs cells slots real ⟨fun i c0 hi => ?_, ⟨fun i j hi hj hij => ?_, fun i hi => ?_⟩, fun i c0 hi => ?_, g4, g5, g6, Nat.le_trans g7 (Nat.le_succ _), fun i hi => (ab_rn_lt i (Nat.lt_of_lt_of_le hi g7)).trans (g8 i hi), g9, ab_F.ren g10 (fun i hi => ab_rn_lt i (by omega))⟩ (ab_Lag hL ab_rn_lt hlo9) (fun v hv => ab_okmono (Nat.le_succ _) (hlo9 v hv)) (fun v hv => ?_)
    · obtain ⟨q1, q2⟩ := g3 i c0 hi
      rw [ab_econgr ab_rn_lt q2, ab_rn_lt i q1]
      exact g1 i c0 hi
    · rw [ab_rn_lt i (hlt i hi), ab_rn_lt j (hlt j hj)] at hij
      exact g2.1 i j hi hj hij
    · rw [ab_rn_lt i (hlt i hi)]
      exact g2.2 i hi
    · obtain ⟨q1, q2⟩ := g3 i c0 hi
      exact ⟨Nat.lt_succ_of_lt q1, ab_cokmono (Nat.le_succ _) q2⟩
    · rcases List.mem_cons.mp hv with rfl | hv
      · exact Nat.lt_succ_self _
      · cases hv
theorem ab_args_mem : ∀ (as : List Value) (k i : Nat) (v : Value), (∀ w ∈ as, w.category = 1) → as[i]? = some v → (k + i, v) ∈ lv_args k as
  | [], _, _, _, _, h => by simp at h
  | a :: as, k, 0, v, hc, h => by
    simp at h
    subst h
    simp [lv_args]
  | a :: as, k, i + 1, v, hc, h => by
    have h1 : as[i]? = some v := by simpa using h
    have ha : ¬ a.category = 2 := by rw [hc a List.mem_cons_self]; decide
    simp only [lv_args, if_neg ha]
    refine List.mem_cons_of_mem _ ?_
    have h2 := ab_args_mem as (k + 1) i v (fun w hw => hc w (List.mem_cons_of_mem _ hw)) h1
    rw [show k + (i + 1) = k + 1 + i by omega]
    exact h2
theorem ab_sl1 : ∀ (as : List Value), (∀ w ∈ as, w.category = 1) → (lg_sl as).length = as.length
  | [], _ => rfl
  | a :: as, hc => by
    have ha : ¬ a.category = 2 := by rw [hc a List.mem_cons_self]; decide
    have h1 := ab_sl1 as (fun w hw => hc w (List.mem_cons_of_mem _ hw))
    simp only [lg_sl, List.flatMap_cons, if_neg ha, List.length_append, List.length_cons, List.length_nil] at h1 ⊢
    omega
/-- the claim of a run -/
def ab_cl (K : ab_Kt) (mt : Nat → ab_M) (M pc : Nat) (ls : ab_Ls) (st : List Value) (h : ab_H) (o : ab_O) (h' : ab_H) : Prop :=
  ∀ (p : Program) (l : Launch) (e : Env) (R : Room) (s : State) (m : MethodId) (args : Array Value) (below : List Frame) (meth : Method) (c : Code) (D : va_G) (cA : Nat → ClassId) (A : Nat → Prop), ab_X (mt M) p l R s m args meth c D cA A →
  ∀ (ρ0 : Nat → Nat) (N0 k0 n0 : Nat), (h.2.2.1 ≤ h'.2.2.1 ∧ h.2.2.2 ≤ h'.2.2.2) ∧ (h'.2.2.1 ≤ k0 + R.cells → h'.2.2.2 ≤ n0 + R.slots →
    ab_W (mt M) p l e R s m args below meth c D cA A K ρ0 N0 k0 n0 (vx_MQ below (ab_Qc D cA A ρ0 N0 o h') (ab_XC D cA A ρ0 N0 o h') args s R.cells R.slots A) pc ls st h)
theorem ab_ctr_of {M : Nat} {as : List Value} {h h' : ab_H} {o : ab_O} (hp : plainName (mt M).1.cls = true) (ha : ab_a1 (mt M).2.2.1 as = true) (hcl : ab_cl K mt M 0 (ab_ent (mt M).2.2.1 as) [] h o h') : ab_ctr K (mt M) as h o h' := by
  intro l D cA ρ sz hst
  have ha1 : (∀ w ∈ as, w.category = 1) ∧ as.length ≤ (mt M).2.2.1 := by
    simp only [ab_a1, Bool.and_eq_true, List.all_eq_true, decide_eq_true_eq, beq_iff_eq] at ha
    exact ha
  have main : ∀ p e s m args below meth c s₁, BodyLoose p l (mt M).1 (headSpec (ab_wl (mt M)) (ab_rm (mt M) (h'.2.2.1 - h.2.2.1) (h'.2.2.2 - h.2.2.2))) (mt M).2.1 (mt M).2.2.1 (mt M).2.2.2.1 e s m args below meth c s₁ → c.maxLocals = (mt M).2.2.1 → c.exceptionTable.toList = tableOf (mt M).2.2.2.2.1 → ab_Pc D cA K ρ sz as h args s →
      W p l e (headSpec (ab_wl (mt M)) (ab_rm (mt M) (h'.2.2.1 - h.2.2.1) (h'.2.2.2 - h.2.2.2))).room s m args below meth c s.heap [] 0 0 (vx_MQ below (ab_Qc D cA (ab_A ρ h sz) ρ h.2.1 o h') (ab_XC D cA (ab_A ρ h sz) ρ h.2.1 o h') args s (h'.2.2.1 - h.2.2.1) (h'.2.2.2 - h.2.2.2) (ab_A ρ h sz)) (entryFrame m args (mt M).2.2.1) := by
    intro p e s m args below meth c s₁ B hml htb hv
    obtain ⟨rfl, hsz, hP, hD, hC, has, h17, hK, hF⟩ := hv
    subst hsz
    have hts := atoms_spec (ws := ab_wl (mt M)) B.pre
    have X : ab_X (mt M) p l (ab_rm (mt M) (h'.2.2.1 - h.2.2.1) (h'.2.2.2 - h.2.2.2)) s m (as.map (ab_v ρ)).toArray meth c D cA (ab_A ρ h s.heap.size) := ⟨B.exec, B.bytes, B.returns, hml, fun w hw => hts w (List.mem_cons_of_mem _ hw), findClass_of_methodNamed B.named, B.notSynchronized, hst, (name_of_methodNamed B.named B.method).1, htb, hK, fun q hq => Or.inr hq, Nat.le_refl _, Nat.le_refl _⟩
    obtain ⟨-, hW⟩ := hcl p l e _ s m _ below meth c D cA _ X ρ h.2.1 h.2.2.1 h.2.2.2
    have hW := hW (show h'.2.2.1 ≤ h.2.2.1 + (h'.2.2.1 - h.2.2.1) by omega) (show h'.2.2.2 ≤ h.2.2.2 + (h'.2.2.2 - h.2.2.2) by omega)
    have hcat : ∀ w ∈ as.map (ab_v ρ), w.category = 1 := by
      intro w hw
      obtain ⟨v, hv, rfl⟩ := List.mem_map.mp hw
      rw [ab_vcat]
      exact ha1.1 v hv
    have hl := lv_entry (as.map (ab_v ρ)) (n := (mt M).2.2.1) (by rw [ab_sl1 _ hcat, List.length_map]; exact ha1.2)
    rw [lg_entry_eq]
    refine hW ρ s.heap [] 0 0 _ ⟨hP, ab_Dself hD, hC, va_S.rf, rfl, rfl, Nat.le_refl _, fun _ _ => rfl, h17, hF⟩ ⟨hl.1, hl.2.1, ?_, fun i v hi => ?_⟩ (fun v hv => ?_) (fun v hv => by cases hv)
    · simp [ab_ent]
      omega
    · have h1 : as[i]? = some v := by
        unfold ab_ent at hi
        by_cases hil : i < as.length
        · rw [List.getElem?_append_left (by simpa using hil), List.getElem?_map] at hi
          cases hx : as[i]? with
          | none => rw [hx] at hi; cases hi
          | some w => rw [hx] at hi; cases hi; rfl
        · rw [List.getElem?_append_right (by simp; omega)] at hi
          have := List.eq_of_mem_replicate (List.mem_of_getElem? hi)
          cases this
      have h2 := ab_args_mem (as.map (ab_v ρ)) 0 i (ab_v ρ v) hcat (by rw [List.getElem?_map, h1]; rfl)
      rw [Nat.zero_add] at h2
      exact hl.2.2 _ h2
    · unfold ab_ent at hv
      rcases List.mem_append.mp hv with h1 | h1
      · obtain ⟨w, hw, hwv⟩ := List.mem_map.mp h1
        cases hwv
        exact has v hw
      · have := List.eq_of_mem_replicate h1
        cases this
  cases hh : (mt M).2.2.2.2.1 with
  | nil =>
    refine vx_ofW (cc := (mt M).2.1) (maxL := (mt M).2.2.1) (ret := (mt M).2.2.2.1) hp (ab_wl_code hh) (fun p e s m args below meth c s₁ B hml ht hv => main p e s m args below meth c s₁ B hml ?_ hv)
    rw [hh]
    exact List.eq_nil_iff_forall_not_mem.mpr (fun x hx => ht x hx)
  | cons q9 hh9 =>
    refine vx_ofWH (cc := (mt M).2.1) (maxL := (mt M).2.2.1) (ret := (mt M).2.2.2.1) (hh := q9 :: hh9) hp (ab_wl_codeW hh) (fun p e s m args below meth c s₁ B hml hv => main p e s m args below meth c s₁ B hml ?_ hv)
    rw [hh]
    exact vx_table (x := (mt M).1) B (atoms_spec (ws := ab_wl (mt M)) B.pre _ (by rw [ab_wl_codeW hh]; exact List.mem_cons_self))
/-- THE RUN IS WHAT THE MACHINE DOES -/
theorem ab_sound (hP : ∀ M pc, ab_OK K mt (mt M) pc (P M pc)) (hH : ∀ M, ab_HOK (mt M) (hn M)) (hmx : ∀ M, mx M = (mt M).2.2.1) (hpl : ∀ M, plainName (mt M).1.cls = true) :
    ∀ (f M pc : Nat) (ls : ab_Ls) (st : List Value) (h : ab_H) (o : ab_O) (h' : ab_H), ab_run P mx hn f M pc ls st h = some (o, h') → ab_cl K mt M pc ls st h o h' := by
  intro f
  induction f with
  | zero => intro M pc ls st h o h' hr; cases hr
  | succ f ih =>
    intro M pc ls st h o h' hr p l e R s m args below meth c D cA A X ρ0 N0 k0 n0
    unfold ab_run at hr
    split at hr
    · cases hr
    · rename_i pc' ls' st' h2 hop
      obtain ⟨⟨m1, m2⟩, row⟩ := hP M pc p l e R s m args below meth c D cA A X ρ0 N0 k0 n0 ls st h _ hop
      obtain ⟨⟨i1, i2⟩, iw⟩ := ih M pc' ls' st' h2 o h' hr p l e R s m args below meth c D cA A X ρ0 N0 k0 n0
      exact ⟨⟨Nat.le_trans m1 i1, Nat.le_trans m2 i2⟩, fun hc1 hc2 => row _ (Nat.le_trans i1 hc1) (Nat.le_trans i2 hc2) (iw hc1 hc2)⟩
    · rename_i r hop
      cases hr
      obtain ⟨m1, row⟩ := hP M pc p l e R s m args below meth c D cA A X ρ0 N0 k0 n0 ls st h _ hop
      exact ⟨m1, row⟩
    · rename_i M' as rest pc' hop
      obtain ⟨hrk, row⟩ := hP M pc p l e R s m args below meth c D cA A X ρ0 N0 k0 n0 ls st h _ hop
      split at hr
      · rename_i ha1
        rw [hmx] at ha1
        split at hr
        · cases hr
        · rename_i v h1 hcal
          split at hr
          · rename_i hmono
            rw [hmx] at hcal
            have hctr := ab_ctr_of (hpl M') ha1 (ih M' 0 _ _ _ _ _ hcal)
            obtain ⟨⟨i1, i2⟩, iw⟩ := ih M pc' ls _ h1 o h' hr p l e R s m args below meth c D cA A X ρ0 N0 k0 n0
            exact ⟨⟨Nat.le_trans hmono.1 i1, Nat.le_trans hmono.2 i2⟩, fun hc1 hc2 => row _ h1 hctr hmono.1 hmono.2 _ (Nat.le_trans i1 hc1) (Nat.le_trans i2 hc2) (iw hc1 hc2)⟩
          · cases hr
        · rename_i E h1 hcal
          split at hr
          · rename_i hmono
            rw [hmx] at hcal
            have hctr := ab_ctr_of (hpl M') ha1 (ih M' 0 _ _ _ _ _ hcal)
            split at hr
            · cases hr
            · rename_i hno
              have he : o = .inr E ∧ h' = h1 := by
                have := Option.some.inj hr
                exact ⟨(Prod.mk.inj this).1.symm, (Prod.mk.inj this).2.symm⟩
              obtain ⟨rfl, rfl⟩ := he
              refine ⟨hmono, fun hc1 hc2 => row _ _ hctr hmono.1 hmono.2 _ hc1 hc2 (ab_pass X ((hH M pc E).1 hno) hc1 hc2)⟩
            · rename_i ph hph
              obtain ⟨⟨i1, i2⟩, iw⟩ := ih M ph ls _ (ab_ct h1) o h' hr p l e R s m args below meth c D cA A X ρ0 N0 k0 n0
              have i1' : h1.2.2.1 ≤ h'.2.2.1 := i1
              have i2' : h1.2.2.2 ≤ h'.2.2.2 := i2
              exact ⟨⟨Nat.le_trans hmono.1 i1', Nat.le_trans hmono.2 i2'⟩, fun hc1 hc2 => row _ h1 hctr hmono.1 hmono.2 _ (Nat.le_trans i1' hc1) (Nat.le_trans i2' hc2) (ab_caught X (hH M) hph (iw hc1 hc2))⟩
          · cases hr
      · cases hr
end
