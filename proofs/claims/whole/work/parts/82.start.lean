/-! ===== what the start gives ===== -/
section
variable {s : State} {b : Nat}
theorem bs_wG (hts : ∀ w ∈ lw_tbl, w.before #[Value.ref b] s = true) : ∀ w ∈ ab_wG, w.before #[Value.ref b] s = true := by
  intro w hw
  rcases List.mem_append.mp (List.mem_filter.mp hw).1 with h | h
  · have h0 : (Cond.selects RJ4 yJ5_getValue_6d5f1 yJ5_getValue_6d5f1).before #[Value.ref b] s = true := hts _ (by decide +kernel)
    simp only [ab_xt, List.mem_cons, List.not_mem_nil, or_false] at h
    rcases h with rfl | rfl
    · exact ab_selU (y0 := yJ5_getValue_6d5f1) rfl (by decide +kernel) h0 (hts _ (by decide +kernel)) (hts _ (by decide +kernel))
    · exact ab_selU (y0 := yJ5_getValue_6d5f1) rfl (by decide +kernel) h0 (hts _ (by decide +kernel)) (hts _ (by decide +kernel))
  · exact hts w h
theorem bs_m1 : ∀ w ∈ ab_nw, w ∈ lw_tbl := by decide +kernel
theorem bs_m2 : ∀ q ∈ ab_nc, Cond.not (.castable q.1 q.2) ∈ flatC (Cond.and given_1 narrow_1) := by decide +kernel
theorem bs_m3 : ∀ C ∈ [RX1, RX4, RX5], Cond.arrayOver (.object C) ∈ lw_tbl := by decide +kernel
theorem bs_N (hts : ∀ w ∈ lw_tbl, w.before #[Value.ref b] s = true) (hs : ∀ w ∈ flatC (Cond.and given_1 narrow_1), w.before #[Value.ref b] s = true) : ab_N s :=
  ⟨fun w hw => va_Nw.of (ab_nw_tab hw) (hts w (bs_m1 w hw)), fun q hq => va_Nc.of (hs _ (bs_m2 q hq)), fun C hC => va_AO.of (hts _ (bs_m3 C hC))⟩
theorem bs_h0 : ∀ w ∈ u_ws RJ0 TJ0 4, w ∈ lw_tbl := by decide +kernel
theorem bs_h2 : ∀ w ∈ u_ws RJx00060 TJx00060 6, w ∈ lw_tbl := by decide +kernel
theorem bs_h3 : ∀ w ∈ u_ws RJx7c733 TJx7c733 6, w ∈ lw_tbl := by decide +kernel
theorem bs_K1 (hts : ∀ w ∈ lw_tbl, w.before #[Value.ref b] s = true) : ∃ D : va_G, ∀ (k : Nat) (q : vw_C), vwCl[k]? = some q → u_Kn s q.1 q.2.1 q.2.2 (D.1 k) (D.2 k) := by
  have hG := bs_wG hts
  have h : ∀ k : Nat, ∃ x : ClassId × (Nat → Nat), ∀ q, vwCl[k]? = some q → u_Kn s q.1 q.2.1 q.2.2 x.1 x.2 := by
    intro k
    match k with
    | 0 =>
      obtain ⟨c, i, h⟩ := u_known (C := RJ0) (T := TJ0) (N := 4) (n := 4) hts bs_h0 (hts (.instantiable RJ0 4) (by decide +kernel))
      exact ⟨(c, i), fun q hq => by cases hq; exact h⟩
    | 1 =>
      obtain ⟨c, i, h⟩ := u_known (C := RJ4) (T := TJ4) (N := 4) (n := 4) hG ab_ic1 (hts (.instantiable RJ4 4) (by decide +kernel))
      exact ⟨(c, i), fun q hq => by cases hq; exact h⟩
    | 2 =>
      obtain ⟨c, i, h⟩ := u_known (C := RJx00060) (T := TJx00060) (N := 6) (n := 6) hts bs_h2 (hts (.instantiable RJx00060 6) (by decide +kernel))
      exact ⟨(c, i), fun q hq => by cases hq; exact h⟩
    | 3 =>
      obtain ⟨c, i, h⟩ := u_known (C := RJx7c733) (T := TJx7c733) (N := 6) (n := 6) hts bs_h3 (hts (.instantiable RJx7c733 6) (by decide +kernel))
      exact ⟨(c, i), fun q hq => by cases hq; exact h⟩
    | 4 =>
      obtain ⟨c, i, h⟩ := u_known (C := RX0) (T := TX0) (N := 5) (n := 5) hG ab_ic4 (hts (.instantiable RX0 5) (by decide +kernel))
      exact ⟨(c, i), fun q hq => by cases hq; exact h⟩
    | 5 =>
      obtain ⟨c, i, h⟩ := u_known (C := RX1) (T := TX1) (N := 13) (n := 13) hG ab_ic5 (hts (.instantiable RX1 13) (by decide +kernel))
      exact ⟨(c, i), fun q hq => by cases hq; exact h⟩
    | 6 =>
      obtain ⟨c, i, h⟩ := u_known (C := RX2) (T := TX2) (N := 8) (n := 8) hG ab_ic6 (hts (.instantiable RX2 8) (by decide +kernel))
      exact ⟨(c, i), fun q hq => by cases hq; exact h⟩
    | 7 =>
      obtain ⟨c, i, h⟩ := u_known (C := RX3) (T := TX3) (N := 3) (n := 3) hG ab_ic7 (hts (.instantiable RX3 3) (by decide +kernel))
      exact ⟨(c, i), fun q hq => by cases hq; exact h⟩
    | 8 =>
      obtain ⟨c, i, h⟩ := u_known (C := RX4) (T := TX4) (N := 2) (n := 2) hG ab_ic8 (hts (.instantiable RX4 2) (by decide +kernel))
      exact ⟨(c, i), fun q hq => by cases hq; exact h⟩
    | 9 =>
      obtain ⟨c, i, h⟩ := u_known (C := RX5) (T := TX5) (N := 10) (n := 10) hG ab_ic9 (hts (.instantiable RX5 10) (by decide +kernel))
      exact ⟨(c, i), fun q hq => by cases hq; exact h⟩
    | 10 =>
      obtain ⟨c, i, h⟩ := u_known (C := RX6) (T := TX6) (N := 9) (n := 9) hG ab_ic10 (hts (.instantiable RX6 9) (by decide +kernel))
      exact ⟨(c, i), fun q hq => by cases hq; exact h⟩
    | 11 =>
      obtain ⟨c, i, h⟩ := u_known (C := RX7) (T := TX7) (N := 19) (n := 19) hG ab_ic11 (hts (.instantiable RX7 19) (by decide +kernel))
      exact ⟨(c, i), fun q hq => by cases hq; exact h⟩
    | k + 12 => exact ⟨(0, fun _ => 0), fun q hq => by simp at hq⟩
  obtain ⟨f, hf⟩ := Classical.axiomOfChoice h
  exact ⟨(fun k => (f k).1, fun k => (f k).2), hf⟩
theorem bs_ar {ty : FieldType} (h : (Cond.arrayClass ty).before #[Value.ref b] s = true) : ∃ c, ArrOfT s c ty ∧ s.vm.findClass ("[" ++ ty.toString) = some c := by
  obtain ⟨c, k, comp, h1, h2, h3⟩ := Cond.arrayClass_spec h
  exact ⟨c, fun n z => ⟨(fun k h => by cases h), k, h2, comp, h3⟩, h1⟩
theorem bs_ao {C : String} (h : va_AO C s) : ∃ c, ArrOfT s c (.object C) ∧ va_RA s c (.object C) := by
  obtain ⟨comp, c, k, h1, h2, h3, h4, h5⟩ := Cond.arrayOver_spec h
  exact ⟨c, fun n z => ⟨(fun k h => by cases h), k, h3, comp, h4⟩, k, comp, h3, h4, h1, h5⟩
theorem bs_K2 (hts : ∀ w ∈ lw_tbl, w.before #[Value.ref b] s = true) (hN : ab_N s) : ∃ cA : Nat → ClassId, ∀ (k : Nat) (q : ClassId × FieldType), (ab_tys cA)[k]? = some q → ArrOfT s q.1 q.2 ∧ va_RA s q.1 q.2 := by
  have h : ∀ k : Nat, ∃ x : ClassId, ∀ ty, ab_ty[k]? = some ty → ArrOfT s x ty ∧ va_RA s x ty := by
    intro k
    match k with
    | 0 =>
      obtain ⟨c, h1, h2⟩ := bs_ar (hts (.arrayClass .int) (by decide +kernel))
      exact ⟨c, fun ty hty => by cases hty; exact ⟨h1, h2⟩⟩
    | 1 =>
      obtain ⟨c, h1, h2⟩ := bs_ar (hts (.arrayClass .boolean) (by decide +kernel))
      exact ⟨c, fun ty hty => by cases hty; exact ⟨h1, h2⟩⟩
    | 2 =>
      obtain ⟨c, h1, h2⟩ := bs_ar (hts (.arrayClass .long) (by decide +kernel))
      exact ⟨c, fun ty hty => by cases hty; exact ⟨h1, h2⟩⟩
    | 3 =>
      obtain ⟨c, h1, h2⟩ := bs_ar (hts (.arrayClass .char) (by decide +kernel))
      exact ⟨c, fun ty hty => by cases hty; exact ⟨h1, h2⟩⟩
    | 4 =>
      obtain ⟨c, h1, h2⟩ := bs_ar (hts (.arrayClass .byte) (by decide +kernel))
      exact ⟨c, fun ty hty => by cases hty; exact ⟨h1, h2⟩⟩
    | 5 =>
      obtain ⟨c, h1, h2⟩ := bs_ar (hts (.arrayClass .double) (by decide +kernel))
      exact ⟨c, fun ty hty => by cases hty; exact ⟨h1, h2⟩⟩
    | 6 =>
      obtain ⟨c, h1, h2⟩ := bs_ao (hN.2.2 RX1 (by decide +kernel))
      exact ⟨c, fun ty hty => by cases hty; exact ⟨h1, h2⟩⟩
    | 7 =>
      obtain ⟨c, h1, h2⟩ := bs_ao (hN.2.2 RX4 (by decide +kernel))
      exact ⟨c, fun ty hty => by cases hty; exact ⟨h1, h2⟩⟩
    | 8 =>
      obtain ⟨c, h1, h2⟩ := bs_ao (hN.2.2 RX5 (by decide +kernel))
      exact ⟨c, fun ty hty => by cases hty; exact ⟨h1, h2⟩⟩
    | k + 9 => exact ⟨0, fun ty hty => by simp [ab_ty] at hty⟩
  obtain ⟨f, hf⟩ := Classical.axiomOfChoice h
  refine ⟨f, fun k q hq => ?_⟩
  unfold ab_tys at hq
  rw [List.getElem?_map, List.getElem?_zipIdx] at hq
  cases ht : ab_ty[k]? with
  | none => rw [ht] at hq; cases hq
  | some ty =>
    rw [ht] at hq
    have e : (f (0 + k), ty) = q := Option.some.inj hq
    subst e
    have e2 : f (0 + k) = f k := by rw [Nat.zero_add]
    show ArrOfT s (f (0 + k)) ty ∧ va_RA s (f (0 + k)) ty
    rw [e2]
    exact hf k ty ht
/-- a static row of bytes, of a hundred numbers -/
theorem bs_t1 : ∀ j, j < 100 → (flatC (Cond.and given_1 narrow_1))[123 + j]? = some (Cond.eq (.elem (.static "java/lang/Integer" "DigitTens" "[B") (.int (Int32.ofNat j))) (.int (nI (48 + j / 10)))) := by decide +kernel
theorem bs_t2 : ∀ j, j < 100 → (flatC (Cond.and given_1 narrow_1))[20 + j]? = some (Cond.eq (.elem (.static "java/lang/Integer" "DigitOnes" "[B") (.int (Int32.ofNat j))) (.int (nI (48 + j % 10)))) := by decide +kernel
theorem bs_t3 : ∀ j, j < 3 → (Cond.eq (.elem (.static "BookBindery" "MINUTES_TO_SET" "[I") (.int (Int32.ofNat j))) (.int (ab_min.getD j 0))) ∈ flatC (Cond.and given_1 narrow_1) := by decide +kernel
def bs_tm (i : Nat) : Term := .string RX2 (ab_strI.getD i 0)
theorem bs_s1 : ∀ i, i < 6 → Cond.exactly (bs_tm i) "java/lang/String" ∈ flatC (Cond.and given_1 narrow_1) := by decide +kernel
theorem bs_s2 : ∀ i, i < 6 → Cond.eq (.field (bs_tm i) "java/lang/String" "coder" "B") (.int 0) ∈ flatC (Cond.and given_1 narrow_1) := by decide +kernel
theorem bs_s3 : ∀ i, i < 6 → Cond.arrayOf (.field (bs_tm i) "java/lang/String" "value" "[B") .byte ∈ flatC (Cond.and given_1 narrow_1) := by decide +kernel
theorem bs_s4 : ∀ i, i < 6 → Cond.eq (.length (.field (bs_tm i) "java/lang/String" "value" "[B")) (.int (Int32.ofNat (ab_len.getD i 0))) ∈ flatC (Cond.and given_1 narrow_1) := by decide +kernel
theorem bs_s5 : ∀ i, i < 6 → ∀ j, j < ab_len.getD i 0 → Cond.eq (.elem (.field (bs_tm i) "java/lang/String" "value" "[B") (.int (Int32.ofNat j))) (.int ((ab_byt.getD i []).getD j 0)) ∈ flatC (Cond.and given_1 narrow_1) := by decide +kernel
theorem bs_s6 : ∀ j, j < 6 → ∀ i, i < j → Cond.not (Cond.eq (bs_tm i) (bs_tm j)) ∈ flatC (Cond.and given_1 narrow_1) := by decide +kernel
theorem bs_s7 : ∀ i, i < 6 → Cond.stringRef RX2 (ab_strI.getD i 0) (ab_str.getD i "") ∈ lw_tbl := by decide +kernel
theorem bs_F (hts : ∀ w ∈ lw_tbl, w.before #[Value.ref b] s = true) (hs : ∀ w ∈ flatC (Cond.and given_1 narrow_1), w.before #[Value.ref b] s = true) {L : Nat} {xs : Nat → Int32} (hX : va_X b L xs s s.heap) (hbl : b < s.heap.size) : ∃ (ρ : Nat → Nat) (nul : Bool), ρ 0 = b ∧ ab_F ρ (L, xs, nul) (fun q => s.heap.size ≤ q) s s.heap := by
  have hN := bs_N hts hs
  have hA : ∀ a : Nat, a < s.heap.size → ¬ (fun q : Nat => s.heap.size ≤ q) a := fun a h => Nat.not_le.mpr h
  have f1 : vx_Zq Bundle.tN "UNASSIGNED_STACK" Bundle.steD (fun q => s.heap.size ≤ q) s s.heap := vx_Zqof (args := #[Value.ref b]) (hts _ (by decide +kernel)) (hts _ (by decide +kernel)) (hs _ (by decide +kernel)) hA
  have f2 : vx_Zq Bundle.tN "SUPPRESSED_SENTINEL" Bundle.listD (fun q => s.heap.size ≤ q) s s.heap := vx_Zqof (args := #[Value.ref b]) (hts _ (by decide +kernel)) (hts _ (by decide +kernel)) (hs _ (by decide +kernel)) hA
  obtain ⟨t1, e1, g1⟩ := va_Tof (args := #[Value.ref b]) (s := s) (tm := .static "BookBindery" "MINUTES_TO_SET" "[I") (ty := .int) (N := 3) (f := fun j => .int (ab_min.getD j 0)) (A := fun q => s.heap.size ≤ q) (by decide) (hs _ (by decide +kernel)) (va_eqt (hs _ (by decide +kernel))) (fun j hj => va_eqt (hs _ (bs_t3 j hj))) hA
  have z1 : va_Z "BookBindery" "MINUTES_TO_SET" "[I" (.ref t1) (fun q => s.heap.size ≤ q) s s.heap := va_Zof (hts _ (by decide +kernel)) (hts _ (by decide +kernel)) e1 hA
  have zc : va_Z "java/lang/String" "COMPACT_STRINGS" "Z" (.int 1) (fun q => s.heap.size ≤ q) s s.heap := va_Zof (args := #[Value.ref b]) (hts _ (by decide +kernel)) (hts _ (by decide +kernel)) (va_eqi (hs _ (by decide +kernel))) hA
  obtain ⟨t2, e2, g2⟩ := va_Tof (args := #[Value.ref b]) (s := s) (tm := .static "java/lang/Integer" "DigitTens" "[B") (ty := .byte) (N := 100) (f := fun j => .int (nI (48 + j / 10))) (A := fun q => s.heap.size ≤ q) (by decide) (hs _ (by decide +kernel)) (va_eqt (hs _ (by decide +kernel))) (fun j hj => va_eqt (hs _ (List.mem_of_getElem? (bs_t1 j hj)))) hA
  have z2 : va_Z "java/lang/Integer" "DigitTens" "[B" (.ref t2) (fun q => s.heap.size ≤ q) s s.heap := va_Zof (hts _ (by decide +kernel)) (hts _ (by decide +kernel)) e2 hA
  obtain ⟨t3, e3, g3⟩ := va_Tof (args := #[Value.ref b]) (s := s) (tm := .static "java/lang/Integer" "DigitOnes" "[B") (ty := .byte) (N := 100) (f := fun j => .int (nI (48 + j % 10))) (A := fun q => s.heap.size ≤ q) (by decide) (hs _ (by decide +kernel)) (va_eqt (hs _ (by decide +kernel))) (fun j hj => va_eqt (hs _ (List.mem_of_getElem? (bs_t2 j hj)))) hA
  have z3 : va_Z "java/lang/Integer" "DigitOnes" "[B" (.ref t3) (fun q => s.heap.size ≤ q) s s.heap := va_Zof (hts _ (by decide +kernel)) (hts _ (by decide +kernel)) e3 hA
  have z16 : va_Zq "jdk/internal/util/Preconditions" "SIOOBE_FORMATTER" "Ljava/util/function/BiFunction;" (fun q => s.heap.size ≤ q) s s.heap := va_Zqof (args := #[Value.ref b]) (hts _ (by decide +kernel)) (hts _ (by decide +kernel)) (hs _ (by decide +kernel)) hA
  obtain ⟨adK, adV, hS, hev⟩ := vk_Sof (args := #[Value.ref b]) (s := s) (N := 6) (tm := bs_tm) (len := ab_len) (byt := ab_byt) (A := fun q => s.heap.size ≤ q) (by decide) (fun i hi => hs _ (bs_s1 i hi)) (fun i hi => hs _ (bs_s2 i hi)) (fun i hi => hs _ (bs_s3 i hi)) (fun i hi => hs _ (bs_s4 i hi)) (fun i hi j hj => hs _ (bs_s5 i hi j hj)) (fun i j hi hj hij => by
    rcases Nat.lt_or_gt_of_ne hij with h | h
    · exact .inl (hs _ (bs_s6 j hj i h))
    · exact .inr (hs _ (bs_s6 i hi j h))) hA
  have mk : ∀ (t16 : Nat) (nul : Bool), va_Z "jdk/internal/util/Preconditions" "SIOOBE_FORMATTER" "Ljava/util/function/BiFunction;" (if nul = true then .null else .ref t16) (fun q => s.heap.size ≤ q) s s.heap → ∃ (ρ : Nat → Nat) (nul : Bool), ρ 0 = b ∧ ab_F ρ (L, xs, nul) (fun q => s.heap.size ≤ q) s s.heap := by
    intro t16 nul z
    obtain ⟨ρ, hρ⟩ : ∃ ρ : Nat → Nat, ρ = fun i => if i = 0 then b else if i = 1 then t1 else if i = 2 then t2 else if i = 3 then t3 else if i = 16 then t16 else if i % 2 = 0 then adK ((i - 4) / 2) else adV ((i - 5) / 2) := ⟨_, rfl⟩
    have k4 : ∀ i, i < 6 → ρ (4 + 2 * i) = adK i := fun i hi => by
      rw [hρ]
      show (if 4 + 2 * i = 0 then b else if 4 + 2 * i = 1 then t1 else if 4 + 2 * i = 2 then t2 else if 4 + 2 * i = 3 then t3 else if 4 + 2 * i = 16 then t16 else if (4 + 2 * i) % 2 = 0 then adK ((4 + 2 * i - 4) / 2) else adV ((4 + 2 * i - 5) / 2)) = _
      rw [if_neg (by omega), if_neg (by omega), if_neg (by omega), if_neg (by omega), if_neg (by omega), if_pos (by omega), show (4 + 2 * i - 4) / 2 = i by omega]
    have k5 : ∀ i, i < 6 → ρ (5 + 2 * i) = adV i := fun i hi => by
      rw [hρ]
      show (if 5 + 2 * i = 0 then b else if 5 + 2 * i = 1 then t1 else if 5 + 2 * i = 2 then t2 else if 5 + 2 * i = 3 then t3 else if 5 + 2 * i = 16 then t16 else if (5 + 2 * i) % 2 = 0 then adK ((5 + 2 * i - 4) / 2) else adV ((5 + 2 * i - 5) / 2)) = _
      rw [if_neg (by omega), if_neg (by omega), if_neg (by omega), if_neg (by omega), if_neg (by omega), if_neg (by omega), show (5 + 2 * i - 5) / 2 = i by omega]
    have p0 : ρ 0 = b := by rw [hρ]; rfl
    have p1 : ρ 1 = t1 := by rw [hρ]; rfl
    have p2 : ρ 2 = t2 := by rw [hρ]; rfl
    have p3 : ρ 3 = t3 := by rw [hρ]; rfl
    have p16 : ρ 16 = t16 := by rw [hρ]; rfl
    refine ⟨ρ, nul, p0, ?_⟩
    unfold ab_F
    rw [p0, p1, p2, p3, p16]
    refine ⟨hX, hbl, hA b hbl, f1, f2, z1, g1, zc, z2, g2, z3, g3, z, ⟨fun i hi => ?_, fun i j hi hj e => ?_⟩, fun i hi => ?_, hN⟩
    · have := hS.1 i hi
      simp only [k4 i hi, k5 i hi]
      exact this
    · refine hS.2 i j hi hj ?_
      rw [← k4 i hi, ← k4 j hj]
      exact e
    · rw [k4 i hi]
      have h9 := hts _ (bs_s7 i hi)
      exact vk_R.of h9 (hev i hi)
  rcases z16 with z | ⟨t, z⟩
  · exact mk 0 true z
  · exact mk t false z
end
