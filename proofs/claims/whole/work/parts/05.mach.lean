/-! ===== the abstract machine ===== -/
abbrev ab_O : Type := Option Value ⊕ String
/-- what a row of code comes to: the next row; an end; a call (callee, its arguments, the rest of the stack, the place behind) -/
abbrev ab_R : Type := (Nat × ab_Ls × List Value × ab_H) ⊕ ((ab_O × ab_H) ⊕ (Nat × List Value × List Value × Nat))
abbrev ab_Op : Type := ab_Ls → List Value → ab_H → Option ab_R
/-- a method: name, bytes, locals, answer, handlers, rank -/
abbrev ab_M : Type := MethodName × ByteArray × Nat × Option FieldType × List (Nat × Nat × Nat × Nat) × Nat
/-- the script's length and ints; whether the formatter of the index messages is null -/
abbrev ab_Kt : Type := Nat × (Nat → Int32) × Bool
/-- words that the tables don't say, but give: private methods of the superclass, on a StringBuilder -/
def ab_xt : List Cond := [.selects RJ4 yJ5_ensureCapacityInternal_d00df yJ5_ensureCapacityInternal_d00df, .selects RJ4 yJ5_newCapacity_0f7a4 yJ5_newCapacity_0f7a4]
def ab_wG : List Cond := (ab_xt ++ lw_tbl).filter goodWord
theorem ab_selU {s : State} {args : Array Value} {C : String} {y0 y : MethodName} (hcls : y.cls = y0.cls) (hy : y.cls ≠ "java/lang/invoke/MethodHandle" ∧ y.cls ≠ "java/lang/invoke/VarHandle") (h0 : (Cond.selects C y0 y0).before args s = true) (hpriv : (Cond.privateMethod y).before args s = true) (hinst : (Cond.instanceMethod y).before args s = true) : (Cond.selects C y y).before args s = true := by
  obtain ⟨c2, r2, m2, q1, q2, q3, q4, kP, hkP, hkPi⟩ := Cond.selects_spec h0
  obtain ⟨mk, methM, hnamed, hmethM, -, -⟩ := Cond.instanceMethod_spec hinst
  have hfound : s.methodFound? y.cls y.name y.desc = some mk := State.methodFound?_of_named hnamed hy
  have hc1 := findClass_of_methodNamed hnamed
  have hc2 := findClass_of_methodNamed q3
  rw [hcls] at hc1
  have hmk : mk.cls = m2.cls := Option.some.inj (hc1.symm.trans hc2)
  have hsel : selectMethod {} s.vm c2 mk = .method mk := selectMethod_private hmethM (Cond.privateMethod_at hpriv mk methM hnamed hmethM)
  have hkP' : s.vm.classes[mk.cls]? = some kP := by rw [hmk]; exact hkP
  simp only [Cond.before, Cond.holds, Cond.value, q1, hfound, hnamed, hsel, hkP']
  simp
  exact hkPi
theorem ab_wG_good : ∀ w ∈ ab_wG, w ∈ ab_wG ∧ ((w.onTables && w.keeps) = true ∨ ∃ ty, w = .arrayClass ty) := fun _ hw => ⟨hw, good_of_word (List.mem_filter.mp hw).2⟩
def ab_wd (G : ab_M) : Cond := match G.2.2.2.2.1 with
  | [] => .code G.1 G.2.1 G.2.2.1 G.2.2.2.1
  | hh => .codeWith G.1 G.2.1 G.2.2.1 G.2.2.2.1 hh
def ab_wl (G : ab_M) : List Cond := ab_wd G :: ab_wG
def ab_rm (G : ab_M) (k n : Nat) : Room := { frames := 2 * G.2.2.2.2.2 + 8, cells := k, slots := n, locals := 100 * G.2.2.2.2.2 + 200 }
/-- the kinds of rows -/
def ab_ty : List FieldType := [.int, .boolean, .long, .char, .byte, .double, .object RX1, .object RX4, .object RX5]
def ab_tys (cA : Nat → ClassId) : List (ClassId × FieldType) := ab_ty.zipIdx.map (fun q => (cA q.2, q.1))
/-- which cells a method may change -/
def ab_A (ρ : Nat → Nat) (h : ab_H) (sz : Nat) : Nat → Prop := fun q => (∃ i, (h.1 i).isSome = true ∧ ρ i = q) ∨ sz ≤ q
def ab_min : List Int32 := [30, 8, 15]
def ab_str : List String := ["#@%:#!", "#", "##", "#/%", "%", ""]
def ab_strI : List Nat := [66, 68, 70, 72, 74, 76]
def ab_byt : List (List Int32) := [[35, 64, 37, 58, 35, 33], [35], [35, 35], [35, 47, 37], [37], []]
def ab_len : List Nat := [6, 1, 2, 3, 1, 0]
/-- words that aren't carried as the others -/
def ab_nw : List Cond := [.castable "java/lang/UnsupportedOperationException" "java/lang/UnsupportedOperationException", .castable "java/lang/IndexOutOfBoundsException" "java/lang/IndexOutOfBoundsException", .castable "java/lang/IllegalArgumentException" "java/lang/IllegalArgumentException", .castable "java/util/NoSuchElementException" "java/util/NoSuchElementException", .castable "java/lang/IllegalStateException" "java/lang/IllegalStateException", .castable "java/lang/ArithmeticException" "java/lang/ArithmeticException",
  .fieldLinkNest RX0 89 "BookBindery" "MINUTES_TO_SET" "[I" "BookBindery", .methodLinkNest RX6 9 yX0_init "BookBindery", .methodLinkNest RX5 30 yX1_init "BookBindery", .methodLinkNest RX5 31 yX4_init "BookBindery", .methodLinkNest RX6 36 yX2_init "BookBindery", .declares ⟨"java/lang/RuntimeException", "<init>", "()V"⟩, .declares ⟨"java/lang/Exception", "<init>", "()V"⟩, .declares ⟨"java/lang/Throwable", "<init>", "()V"⟩]
def ab_nc : List (String × String) := [("java/lang/IllegalArgumentException", "java/lang/IndexOutOfBoundsException"), ("java/util/NoSuchElementException", "java/lang/IndexOutOfBoundsException"), ("java/util/NoSuchElementException", "java/lang/IllegalArgumentException"), ("java/lang/UnsupportedOperationException", "java/lang/IllegalArgumentException"), ("java/lang/ArithmeticException", "java/lang/IndexOutOfBoundsException")]
def ab_N (U : State) : Prop := (∀ w ∈ ab_nw, va_Nw w U) ∧ (∀ q ∈ ab_nc, va_Nc q.1 q.2 U) ∧ ∀ C ∈ [RX1, RX4, RX5], va_AO C U
theorem ab_nw_moved {s U : State} (hW : s.WarmedH U.vm) {w : Cond} (hw : w ∈ ab_nw) (h : va_Nw w s) : va_Nw w U := by
  simp only [ab_nw, List.mem_cons, List.not_mem_nil, or_false] at hw
  rcases hw with rfl | rfl | rfl | rfl | rfl | rfl | rfl | rfl | rfl | rfl | rfl | rfl | rfl | rfl
  · exact va_Nw.warmC hW h
  · exact va_Nw.warmC hW h
  · exact va_Nw.warmC hW h
  · exact va_Nw.warmC hW h
  · exact va_Nw.warmC hW h
  · exact va_Nw.warmC hW h
  · exact va_Nw.warmF hW h
  · exact va_Nw.warmM hW h
  · exact va_Nw.warmM hW h
  · exact va_Nw.warmM hW h
  · exact va_Nw.warmM hW h
  · exact va_Nw.warmD hW h
  · exact va_Nw.warmD hW h
  · exact va_Nw.warmD hW h
theorem ab_nw_tab {w : Cond} (hw : w ∈ ab_nw) : w.onTables = true := by
  simp only [ab_nw, List.mem_cons, List.not_mem_nil, or_false] at hw
  rcases hw with rfl | rfl | rfl | rfl | rfl | rfl | rfl | rfl | rfl | rfl | rfl | rfl | rfl | rfl <;> rfl
theorem ab_N.moved {s U : State} (hW : s.WarmedH U.vm) (h : ab_N s) : ab_N U := ⟨fun w hw => ab_nw_moved hW hw (h.1 w hw), fun q hq => va_Nc.moved hW.alike (h.2.1 q hq), fun C hC => va_AO.moved hW.alike (h.2.2 C hC)⟩
theorem ab_N.same {s U : State} (hv : U.vm = s.vm) (h : ab_N s) : ab_N U := ⟨fun w hw => va_Nw.same (ab_nw_tab hw) hv.symm (h.1 w hw), fun q hq => va_Nc.moved (by rw [hv]; exact Vm.Alike.refl _) (h.2.1 q hq), fun C hC => va_AO.moved (by rw [hv]; exact Vm.Alike.refl _) (h.2.2 C hC)⟩
/-- what is given and never changed: 0 the script, 1 the minutes, 2 and 3 the digits, 4 + 2 i the i-th text, 5 + 2 i its bytes, 16 the formatter -/
def ab_F (ρ : Nat → Nat) (K : ab_Kt) (A : Nat → Prop) (U : State) (H : Heap) : Prop :=
  va_X (ρ 0) K.1 K.2.1 U H ∧ ρ 0 < H.size ∧ ¬ A (ρ 0) ∧
  vx_Zq Bundle.tN "UNASSIGNED_STACK" Bundle.steD A U H ∧ vx_Zq Bundle.tN "SUPPRESSED_SENTINEL" Bundle.listD A U H ∧
  va_Z "BookBindery" "MINUTES_TO_SET" "[I" (.ref (ρ 1)) A U H ∧ va_T .int (ρ 1) 3 (fun j => .int (ab_min.getD j 0)) A U H ∧
  va_Z "java/lang/String" "COMPACT_STRINGS" "Z" (.int 1) A U H ∧
  va_Z "java/lang/Integer" "DigitTens" "[B" (.ref (ρ 2)) A U H ∧ va_T .byte (ρ 2) 100 (fun j => .int (nI (48 + j / 10))) A U H ∧
  va_Z "java/lang/Integer" "DigitOnes" "[B" (.ref (ρ 3)) A U H ∧ va_T .byte (ρ 3) 100 (fun j => .int (nI (48 + j % 10))) A U H ∧
  va_Z "jdk/internal/util/Preconditions" "SIOOBE_FORMATTER" "Ljava/util/function/BiFunction;" (if K.2.2 = true then .null else .ref (ρ 16)) A U H ∧
  vk_S 6 ab_len ab_byt (fun i => ρ (4 + 2 * i)) (fun i => ρ (5 + 2 * i)) A U H ∧
  (∀ i, i < 6 → vk_R RX2 (ab_strI.getD i 0) (ab_str.getD i "") (ρ (4 + 2 * i)) U) ∧ ab_N U
theorem ab_F.narrow {ρ : Nat → Nat} {K : ab_Kt} {A B : Nat → Prop} {U : State} {H : Heap} (h : ab_F ρ K A U H) (hAB : ∀ q, B q → A q) : ab_F ρ K B U H := by
  obtain ⟨h1, h2, h3, h4, h5, h6, h7, h8, h9, h10, h11, h12, h13, h14, h15, h16⟩ := h
  exact ⟨h1, h2, fun z => h3 (hAB _ z), h4.narrow hAB, h5.narrow hAB, h6.narrow hAB, h7.narrow hAB, h8.narrow hAB, h9.narrow hAB, h10.narrow hAB, h11.narrow hAB, h12.narrow hAB, h13.narrow hAB, h14.narrow hAB, h15, h16⟩
theorem ab_F.kept {ρ : Nat → Nat} {K : ab_Kt} {A : Nat → Prop} {U : State} {H H1 : Heap} (h : ab_F ρ K A U H) (hz : H.size ≤ H1.size) (hq : ∀ a : Nat, a < H.size → ¬ A a → H1[a]? = H[a]?) : ab_F ρ K A U H1 := by
  obtain ⟨h1, h2, h3, h4, h5, h6, h7, h8, h9, h10, h11, h12, h13, h14, h15, h16⟩ := h
  exact ⟨h1.kept (hq _ h2 h3), Nat.lt_of_lt_of_le h2 hz, h3, h4.kept hq, h5.kept hq, h6.kept hq, h7.kept hq, h8.kept hq, h9.kept hq, h10.kept hq, h11.kept hq, h12.kept hq, h13.kept hq, h14.kept hq, h15, h16⟩
theorem ab_F.moved {ρ : Nat → Nat} {K : ab_Kt} {A : Nat → Prop} {u U : State} {H : Heap} (hW : u.WarmedH U.vm) (h : ab_F ρ K A u H) : ab_F ρ K A U H := by
  obtain ⟨h1, h2, h3, h4, h5, h6, h7, h8, h9, h10, h11, h12, h13, h14, h15, h16⟩ := h
  have hvm := hW.alike
  exact ⟨h1.moved hvm, h2, h3, h4.moved hvm, h5.moved hvm, h6.moved hvm, h7.moved hvm, h8.moved hvm, h9.moved hvm, h10.moved hvm, h11.moved hvm, h12.moved hvm, h13.moved hvm, h14.moved hvm, fun i hi => vk_R.warm hW (h15 i hi), h16.moved hW⟩
theorem ab_F.same {ρ : Nat → Nat} {K : ab_Kt} {A : Nat → Prop} {u U : State} {H : Heap} (hv : U.vm = u.vm) (h : ab_F ρ K A u H) : ab_F ρ K A U H := by
  obtain ⟨h1, h2, h3, h4, h5, h6, h7, h8, h9, h10, h11, h12, h13, h14, h15, h16⟩ := h
  have hvm : u.vm.Alike U.vm := by rw [hv]; exact Vm.Alike.refl _
  exact ⟨h1.moved hvm, h2, h3, h4.moved hvm, h5.moved hvm, h6.moved hvm, h7.moved hvm, h8.moved hvm, h9.moved hvm, h10.moved hvm, h11.moved hvm, h12.moved hvm, h13.moved hvm, h14.moved hvm, fun i hi => vk_R.same hv (h15 i hi), h16.same hv⟩
theorem ab_F.ren {ρ ρ' : Nat → Nat} {K : ab_Kt} {A : Nat → Prop} {U : State} {H : Heap} (h : ab_F ρ K A U H) (hr : ∀ i, i < 17 → ρ' i = ρ i) : ab_F ρ' K A U H := by
  unfold ab_F at h ⊢
  have e1 : ∀ i, i < 6 → ρ' (4 + 2 * i) = ρ (4 + 2 * i) := fun i hi => hr _ (by omega)
  have e2 : ∀ i, i < 6 → ρ' (5 + 2 * i) = ρ (5 + 2 * i) := fun i hi => hr _ (by omega)
  rw [hr 0 (by omega), hr 1 (by omega), hr 2 (by omega), hr 3 (by omega), hr 16 (by omega)]
  obtain ⟨h1, h2, h3, h4, h5, h6, h7, h8, h9, h10, h11, h12, h13, h14, h15, h16⟩ := h
  refine ⟨h1, h2, h3, h4, h5, h6, h7, h8, h9, h10, h11, h12, h13, ⟨fun i hi => ?_, fun i j hi hj e => ?_⟩, fun i hi => ?_, h16⟩
  · have := h14.1 i hi
    simp only [e1 i hi, e2 i hi]
    exact this
  · exact h14.2 i j hi hj (by show ρ (4 + 2 * i) = ρ (4 + 2 * j); rw [← e1 i hi, ← e1 j hj]; exact e)
  · rw [e1 i hi]
    exact h15 i hi
/-- a method under way: its code, the words, the room, what is given -/
def ab_X (G : ab_M) (p : Program) (l : Launch) (R : Room) (s : State) (m : MethodId) (args : Array Value) (meth : Method) (c : Code) (D : va_G) (cA : Nat → ClassId) (A : Nat → Prop) : Prop :=
  p.tables.exec = Jvm.exec ∧ c.code = G.2.1 ∧ meth.sig.returnType = G.2.2.2.1 ∧ c.maxLocals = G.2.2.1 ∧ (∀ w ∈ ab_wG, w.before args s = true) ∧ s.vm.findClass G.1.cls = some m.cls ∧ meth.locks = false ∧ l.stackTraces = false ∧ meth.name = G.1.name ∧ c.exceptionTable.toList = tableOf G.2.2.2.2.1 ∧ va_K D vwCl (ab_tys cA) s ∧ (∀ q, s.heap.size ≤ q → A q) ∧ 2 * G.2.2.2.2.2 + 8 ≤ R.frames ∧ 100 * G.2.2.2.2.2 + 200 ≤ R.locals
/-- the heap holds the world h, at addresses ρ that agree with ρ0 below N0 -/
def ab_G (R : Room) (s : State) (D : va_G) (cA : Nat → ClassId) (A : Nat → Prop) (K : ab_Kt) (ρ0 : Nat → Nat) (N0 k0 n0 : Nat) (h : ab_H) (ρ : Nat → Nat) (H : Heap) (locs : List Loc) (cells slots : Nat) : Prop :=
  ab_P D vwCl ρ cA h H ∧ ab_D A ρ h ∧ ab_CL h ∧ va_S A s.heap H locs ∧ h.2.2.1 = k0 + cells ∧ h.2.2.2 = n0 + slots ∧ N0 ≤ h.2.1 ∧ (∀ i, i < N0 → ρ i = ρ0 i) ∧ 17 ≤ N0 ∧ ab_F ρ K A s s.heap
/-- from the row pc, with these locals, this stack and this world, the machine comes to Q -/
def ab_W (G : ab_M) (p : Program) (l : Launch) (e : Env) (R : Room) (s : State) (m : MethodId) (args : Array Value) (below : List Frame) (meth : Method) (c : Code) (D : va_G) (cA : Nat → ClassId) (A : Nat → Prop) (K : ab_Kt) (ρ0 : Nat → Nat) (N0 k0 n0 : Nat) (Q : State → Prop) (pc : Nat) (ls : ab_Ls) (st : List Value) (h : ab_H) : Prop :=
  ∀ (ρ : Nat → Nat) (H : Heap) (locs : List Loc) (cells slots : Nat) (real : Array Slot), ab_G R s D cA A K ρ0 N0 k0 n0 h ρ H locs cells slots → ab_L real G.2.2.1 ls ρ → (∀ v, some v ∈ ls → ab_ok h.2.1 v) → (∀ v ∈ st, ab_ok h.2.1 v) → W p l e R s m args below meth c H locs cells slots Q (F0 m pc real (st.map (ab_v ρ)))
/-- the same with an exception of the class E over the frame -/
def ab_V (G : ab_M) (p : Program) (l : Launch) (e : Env) (R : Room) (s : State) (m : MethodId) (args : Array Value) (below : List Frame) (meth : Method) (c : Code) (D : va_G) (cA : Nat → ClassId) (A : Nat → Prop) (K : ab_Kt) (ρ0 : Nat → Nat) (N0 k0 n0 : Nat) (Q : State → Prop) (pc : Nat) (ls : ab_Ls) (E : String) (h : ab_H) : Prop :=
  ∀ (ρ : Nat → Nat) (H : Heap) (locs : List Loc) (cells slots : Nat) (real : Array Slot) (rest : List Value) (q : Nat) (ce : Cell), ab_G R s D cA A K ρ0 N0 k0 n0 h ρ H locs cells slots → ab_L real G.2.2.1 ls ρ → (∀ v, some v ∈ ls → ab_ok h.2.1 v) → H[q]? = some ce → ce.vm = .none → s.vm.findClass E = some ce.cls → vx_W p l e R s m args below meth c H locs cells slots Q (F0 m pc real rest) q
def ab_Qc (D : va_G) (cA : Nat → ClassId) (A : Nat → Prop) (ρ0 : Nat → Nat) (N0 : Nat) (o : ab_O) (h : ab_H) : Array Value → State → Outcome → State → Prop := fun _ st oc t =>
  (∃ (v : Option Value) (ρ : Nat → Nat), o = .inl v ∧ oc = .returned (v.map (ab_v ρ)) ∧ ab_P D vwCl ρ cA h t.heap ∧ ab_D A ρ h ∧ ab_CL h ∧ N0 ≤ h.2.1 ∧ (∀ i, i < N0 → ρ i = ρ0 i) ∧ ∀ w, v = some w → ab_ok h.2.1 w) ∧ va_F A st t
def ab_XC (D : va_G) (cA : Nat → ClassId) (A : Nat → Prop) (ρ0 : Nat → Nat) (N0 : Nat) (o : ab_O) (h : ab_H) : String → State → State → Prop := fun E st t =>
  (∃ ρ : Nat → Nat, o = .inr E ∧ ab_P D vwCl ρ cA h t.heap ∧ ab_D A ρ h ∧ ab_CL h ∧ N0 ≤ h.2.1 ∧ (∀ i, i < N0 → ρ i = ρ0 i)) ∧ va_F A st t
/-- what a method's start is -/
def ab_Pc (D : va_G) (cA : Nat → ClassId) (K : ab_Kt) (ρ : Nat → Nat) (sz : Nat) (as : List Value) (h : ab_H) : Array Value → State → Prop :=
  va_Pc (as.map (ab_v ρ)) (fun U => U.heap.size = sz ∧ ab_P D vwCl ρ cA h U.heap ∧ ab_D (fun _ => True) ρ h ∧ ab_CL h ∧ (∀ v ∈ as, ab_ok h.2.1 v) ∧ 17 ≤ h.2.1 ∧ va_K D vwCl (ab_tys cA) U ∧ ab_F ρ K (ab_A ρ h sz) U U.heap)
/-- the contract: with these arguments, from the world h, the method comes to the end o with the world h' -/
def ab_ctr (K : ab_Kt) (G : ab_M) (as : List Value) (h : ab_H) (o : ab_O) (h' : ab_H) : Prop :=
  ∀ (l : Launch) (D : va_G) (cA : Nat → ClassId) (ρ : Nat → Nat) (sz : Nat), l.stackTraces = false →
    vx_Met l G.1 (ab_wl G) (ab_rm G (h'.2.2.1 - h.2.2.1) (h'.2.2.2 - h.2.2.2)) (ab_Pc D cA K ρ sz as h) (ab_Qc D cA (ab_A ρ h sz) ρ h.2.1 o h') (ab_XC D cA (ab_A ρ h sz) ρ h.2.1 o h') (h'.2.2.1 - h.2.2.1) (h'.2.2.2 - h.2.2.2) (ab_A ρ h sz)
/-- behind a call that came to the end o -/
def ab_K (G : ab_M) (p : Program) (l : Launch) (e : Env) (R : Room) (s : State) (m : MethodId) (args : Array Value) (below : List Frame) (meth : Method) (c : Code) (D : va_G) (cA : Nat → ClassId) (A : Nat → Prop) (K : ab_Kt) (ρ0 : Nat → Nat) (N0 k0 n0 : Nat) (Q : State → Prop) (pc pc' : Nat) (ls : ab_Ls) (rest : List Value) (h1 : ab_H) : ab_O → Prop
  | .inl v => ab_W G p l e R s m args below meth c D cA A K ρ0 N0 k0 n0 Q pc' ls (v.toList ++ rest) h1
  | .inr E => ab_V G p l e R s m args below meth c D cA A K ρ0 N0 k0 n0 Q pc ls E h1
/-- what a row owes -/
def ab_res (mt : Nat → ab_M) (G : ab_M) (p : Program) (l : Launch) (e : Env) (R : Room) (s : State) (m : MethodId) (args : Array Value) (below : List Frame) (meth : Method) (c : Code) (D : va_G) (cA : Nat → ClassId) (A : Nat → Prop) (K : ab_Kt) (ρ0 : Nat → Nat) (N0 k0 n0 : Nat) (pc : Nat) (ls : ab_Ls) (st : List Value) (h : ab_H) : ab_R → Prop
  | .inl (pc', ls', st', h') => (h.2.2.1 ≤ h'.2.2.1 ∧ h.2.2.2 ≤ h'.2.2.2) ∧ ∀ Q, h'.2.2.1 ≤ k0 + R.cells → h'.2.2.2 ≤ n0 + R.slots →
      ab_W G p l e R s m args below meth c D cA A K ρ0 N0 k0 n0 Q pc' ls' st' h' → ab_W G p l e R s m args below meth c D cA A K ρ0 N0 k0 n0 Q pc ls st h
  | .inr (.inl (o, h')) => (h.2.2.1 ≤ h'.2.2.1 ∧ h.2.2.2 ≤ h'.2.2.2) ∧ (h'.2.2.1 ≤ k0 + R.cells → h'.2.2.2 ≤ n0 + R.slots →
      ab_W G p l e R s m args below meth c D cA A K ρ0 N0 k0 n0 (vx_MQ below (ab_Qc D cA A ρ0 N0 o h') (ab_XC D cA A ρ0 N0 o h') args s R.cells R.slots A) pc ls st h)
  | .inr (.inr (M, as, rest, pc')) => (mt M).2.2.2.2.2 < G.2.2.2.2.2 ∧ ∀ o h1, ab_ctr K (mt M) as h o h1 → h.2.2.1 ≤ h1.2.2.1 → h.2.2.2 ≤ h1.2.2.2 → ∀ Q, h1.2.2.1 ≤ k0 + R.cells → h1.2.2.2 ≤ n0 + R.slots →
      ab_K G p l e R s m args below meth c D cA A K ρ0 N0 k0 n0 Q pc pc' ls rest h1 o → ab_W G p l e R s m args below meth c D cA A K ρ0 N0 k0 n0 Q pc ls st h
def ab_OK (K : ab_Kt) (mt : Nat → ab_M) (G : ab_M) (pc : Nat) (op : ab_Op) : Prop :=
  ∀ (p : Program) (l : Launch) (e : Env) (R : Room) (s : State) (m : MethodId) (args : Array Value) (below : List Frame) (meth : Method) (c : Code) (D : va_G) (cA : Nat → ClassId) (A : Nat → Prop), ab_X G p l R s m args meth c D cA A →
  ∀ (ρ0 : Nat → Nat) (N0 k0 n0 : Nat) (ls : ab_Ls) (st : List Value) (h : ab_H) (r : ab_R), op ls st h = some r → ab_res mt G p l e R s m args below meth c D cA A K ρ0 N0 k0 n0 pc ls st h r
