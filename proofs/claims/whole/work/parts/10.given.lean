/-! ===== what is given, ends, throws ===== -/
section
variable {K : ab_Kt} {mt : Nat → ab_M} {G : ab_M} {pc : Nat}
theorem ab_acopyl_ok {index : Nat} (hd : decode G.2.1 pc = .ok (.invokestatic index, 3)) (hw : ∀ w ∈ [Cond.methodLink G.1.cls index arraycopyName, .native arraycopyName, .static arraycopyName, .initialized "java/lang/System"], w ∈ ab_wG) : ab_OK K mt G pc (ab_acopyl (pc + 3)) := by
  intro p l e R s m args below meth c D cA A X ρ0 N0 k0 n0 ls st h r hop
  have X9 := X
  obtain ⟨hx, hb, hr, hml, hts, hown, hlk, hst, hnm, htb, hK, hA, hfr, hlo⟩ := X
  unfold ab_acopyl at hop
  split at hop
  · rename_i n dp b sp b0 rest
    split at hop
    · rename_i t0 n0' f t1 n1 g hcell0 hcell1
      split at hop
      · rename_i hguard
        obtain ⟨e0, e1, q1, q2, q3, q4, q5, hlen⟩ := hguard
        subst e0
        subst e1
        cases hop
        refine ⟨⟨Nat.le_refl _, Nat.le_refl _⟩, fun Q hc1 hc2 kk ρ H locs cells slots real hG hL hlo9 hso => ?_⟩
        obtain ⟨g1, g2, g3, g4, g5, g6, g7, g8, g9, g10⟩ := hG
        obtain ⟨k0', hk0⟩ := ab_mem (ρ := ρ) (cA := cA) g3 hcell0
        obtain ⟨k1', hk1⟩ := ab_mem (ρ := ρ) (cA := cA) g3 hcell1
        have h8 : (((rest.map (ab_v ρ)).map fun v => v.category).sum) ≤ 8 := ab_catle hlen
        have hnf : nativeFrameWords "java/lang/System" "arraycopy" 5 ≤ 100 := by decide
        refine va_copyl hx hb (by rw [hml]; exact hL.1.symm) hown (hts _ (hw _ (by simp))) (hts _ (hw _ (by simp))) (hts _ (hw _ (by simp))) (hts _ (hw _ (by simp))) hK (ab_toP g1) (ab_toD g2) g4 k0' k1' 2 2 hk0 hk1 (ty := .long) (ab_tys_at rfl) (ab_tys_at rfl) rfl
          (Int32.not_lt.mpr q1) (Int32.not_lt.mpr q2) (Int32.not_lt.mpr q3) q4 q5 (fun i hi => rfl) (by omega) (by omega) hd (fun H1 locs1 hP1 _ hS1 => ?_)
        refine kk ρ H1 locs1 cells slots real ⟨ab_ofSet g3 g2 hcell1 hk1 hP1, ab_Dset g2 hcell1, ab_CLset g3 hcell1 trivial, hS1, g5, g6, g7, g8, g9, g10⟩ hL hlo9 (fun w hw' => hso w (by simp [hw']))
      · cases hop
    · cases hop
  · cases hop
/-- a number or a thing that is given -/
def ab_gst (v : Value) (nx : Nat) : ab_Op := fun ls st h => if 17 ≤ h.2.1 then some (.inl (nx, ls, v :: st, h)) else none
theorem ab_gmin_ok {index : Nat} {host : String} (hd : decode G.2.1 pc = .ok (.getstatic index, 3)) (hw : Cond.fieldLinkNest G.1.cls index "BookBindery" "MINUTES_TO_SET" "[I" host ∈ ab_nw) : ab_OK K mt G pc (ab_gst (.ref 1) (pc + 3)) := by
  intro p l e R s m args below meth c D cA A X ρ0 N0 k0 n0 ls st h r hop
  have X9 := X
  obtain ⟨hx, hb, hr, hml, hts, hown, hlk, hst, hnm, htb, hK, hA, hfr, hlo⟩ := X
  unfold ab_gst at hop
  split at hop
  · rename_i h16
    cases hop
    refine ab_stk (fun _ hs v hv => ?_) (fun Q ρ H locs cells slots real hG hL k => ?_)
    · rcases List.mem_cons.mp hv with rfl | hv
      · exact Nat.lt_of_lt_of_le (by decide : 1 < 17) h16
      · exact hs v hv
    · obtain ⟨g1, g2, g3, g4, g5, g6, g7, g8, g9, f1, f2, f3, f4, f5, f6, f7, f8, f9, f10, f11, f12, f13, f14, f15, f16⟩ := hG
      exact va_getsN hx hb f6 g4 hown (va_Nw.use (ab_nw_tab hw) (f16.1 _ hw)) (fun _ h9 => h9) hd k
  · cases hop
theorem ab_gcom_ok {index : Nat} (hd : decode G.2.1 pc = .ok (.getstatic index, 3)) (hw : Cond.fieldLink G.1.cls index "java/lang/String" "COMPACT_STRINGS" "Z" ∈ ab_wG) : ab_OK K mt G pc (ab_gst (.int 1) (pc + 3)) := by
  intro p l e R s m args below meth c D cA A X ρ0 N0 k0 n0 ls st h r hop
  have X9 := X
  obtain ⟨hx, hb, hr, hml, hts, hown, hlk, hst, hnm, htb, hK, hA, hfr, hlo⟩ := X
  unfold ab_gst at hop
  split at hop
  · rename_i h16
    cases hop
    refine ab_stk (fun _ hs v hv => ?_) (fun Q ρ H locs cells slots real hG hL k => ?_)
    · rcases List.mem_cons.mp hv with rfl | hv
      · trivial
      · exact hs v hv
    · obtain ⟨g1, g2, g3, g4, g5, g6, g7, g8, g9, f1, f2, f3, f4, f5, f6, f7, f8, f9, f10, f11, f12, f13, f14, f15, f16⟩ := hG
      exact va_gets hx hb f8 g4 hown (hts _ hw) (fun _ h9 => h9) hd k
  · cases hop
theorem ab_gten_ok {index : Nat} (hd : decode G.2.1 pc = .ok (.getstatic index, 3)) (hw : Cond.fieldLink G.1.cls index "java/lang/Integer" "DigitTens" "[B" ∈ ab_wG) : ab_OK K mt G pc (ab_gst (.ref 2) (pc + 3)) := by
  intro p l e R s m args below meth c D cA A X ρ0 N0 k0 n0 ls st h r hop
  have X9 := X
  obtain ⟨hx, hb, hr, hml, hts, hown, hlk, hst, hnm, htb, hK, hA, hfr, hlo⟩ := X
  unfold ab_gst at hop
  split at hop
  · rename_i h16
    cases hop
    refine ab_stk (fun _ hs v hv => ?_) (fun Q ρ H locs cells slots real hG hL k => ?_)
    · rcases List.mem_cons.mp hv with rfl | hv
      · exact Nat.lt_of_lt_of_le (by decide : 2 < 17) h16
      · exact hs v hv
    · obtain ⟨g1, g2, g3, g4, g5, g6, g7, g8, g9, f1, f2, f3, f4, f5, f6, f7, f8, f9, f10, f11, f12, f13, f14, f15, f16⟩ := hG
      exact va_gets hx hb f9 g4 hown (hts _ hw) (fun _ h9 => h9) hd k
  · cases hop
theorem ab_gone_ok {index : Nat} (hd : decode G.2.1 pc = .ok (.getstatic index, 3)) (hw : Cond.fieldLink G.1.cls index "java/lang/Integer" "DigitOnes" "[B" ∈ ab_wG) : ab_OK K mt G pc (ab_gst (.ref 3) (pc + 3)) := by
  intro p l e R s m args below meth c D cA A X ρ0 N0 k0 n0 ls st h r hop
  have X9 := X
  obtain ⟨hx, hb, hr, hml, hts, hown, hlk, hst, hnm, htb, hK, hA, hfr, hlo⟩ := X
  unfold ab_gst at hop
  split at hop
  · rename_i h16
    cases hop
    refine ab_stk (fun _ hs v hv => ?_) (fun Q ρ H locs cells slots real hG hL k => ?_)
    · rcases List.mem_cons.mp hv with rfl | hv
      · exact Nat.lt_of_lt_of_le (by decide : 3 < 17) h16
      · exact hs v hv
    · obtain ⟨g1, g2, g3, g4, g5, g6, g7, g8, g9, f1, f2, f3, f4, f5, f6, f7, f8, f9, f10, f11, f12, f13, f14, f15, f16⟩ := hG
      exact va_gets hx hb f11 g4 hown (hts _ hw) (fun _ h9 => h9) hd k
  · cases hop
theorem ab_gfmt_ok {index : Nat} (hd : decode G.2.1 pc = .ok (.getstatic index, 3)) (hw : Cond.fieldLink G.1.cls index "jdk/internal/util/Preconditions" "SIOOBE_FORMATTER" "Ljava/util/function/BiFunction;" ∈ ab_wG) : ab_OK K mt G pc (ab_gst (if K.2.2 = true then .null else .ref 16) (pc + 3)) := by
  intro p l e R s m args below meth c D cA A X ρ0 N0 k0 n0 ls st h r hop
  have X9 := X
  obtain ⟨hx, hb, hr, hml, hts, hown, hlk, hst, hnm, htb, hK, hA, hfr, hlo⟩ := X
  unfold ab_gst at hop
  split at hop
  · rename_i h16
    cases hop
    refine ab_stk (fun _ hs v hv => ?_) (fun Q ρ H locs cells slots real hG hL k => ?_)
    · rcases List.mem_cons.mp hv with rfl | hv
      · split
        · trivial
        · exact Nat.lt_of_lt_of_le (by decide : 16 < 17) h16
      · exact hs v hv
    · obtain ⟨g1, g2, g3, g4, g5, g6, g7, g8, g9, f1, f2, f3, f4, f5, f6, f7, f8, f9, f10, f11, f12, f13, f14, f15, f16⟩ := hG
      exact va_gets hx hb f13 g4 hown (hts _ hw) (fun _ h9 => h9) hd (by rw [← (show ab_v ρ (if K.2.2 = true then .null else .ref 16) = (if K.2.2 = true then Value.null else .ref (ρ 16)) from by split <;> rfl)]; exact k)
  · cases hop
theorem ab_gstr_ok {i : Nat} (hi : i < 6) (hd : decode G.2.1 pc = .ok (.ldc (ab_strI.getD i 0), 2)) (hG0 : G.1.cls = RX2) : ab_OK K mt G pc (ab_gst (.ref (4 + 2 * i)) (pc + 2)) := by
  intro p l e R s m args below meth c D cA A X ρ0 N0 k0 n0 ls st h r hop
  have X9 := X
  obtain ⟨hx, hb, hr, hml, hts, hown, hlk, hst, hnm, htb, hK, hA, hfr, hlo⟩ := X
  unfold ab_gst at hop
  split at hop
  · rename_i h16
    cases hop
    refine ab_stk (fun _ hs v hv => ?_) (fun Q ρ H locs cells slots real hG hL k => ?_)
    · rcases List.mem_cons.mp hv with rfl | hv
      · show 4 + 2 * i < _; omega
      · exact hs v hv
    · obtain ⟨g1, g2, g3, g4, g5, g6, g7, g8, g9, f1, f2, f3, f4, f5, f6, f7, f8, f9, f10, f11, f12, f13, f14, f15, f16⟩ := hG
      exact va_ldcS hx hb (by rw [← hG0]; exact hown) (f15 i hi) hd k
  · cases hop
def ab_tmin (nx : Nat) : ab_Op := fun ls st h => match st with
  | .int i :: .ref b :: rest => if b = 1 ∧ 0 ≤ i ∧ i.toNatClampNeg < 3 then some (.inl (nx, ls, .int (ab_min.getD i.toNatClampNeg 0) :: rest, h)) else none
  | _ => none
theorem ab_tmin_ok (hd : decode G.2.1 pc = .ok (.iaload, 1)) : ab_OK K mt G pc (ab_tmin (pc + 1)) := by
  intro p l e R s m args below meth c D cA A X ρ0 N0 k0 n0 ls st h r hop
  have X9 := X
  obtain ⟨hx, hb, hr, hml, hts, hown, hlk, hst, hnm, htb, hK, hA, hfr, hlo⟩ := X
  unfold ab_tmin at hop
  split at hop
  · split at hop
    · rename_i i b rest hguard
      obtain ⟨rfl, q1, q2⟩ := hguard
      cases hop
      refine ab_stk (fun _ hs v hv => ?_) (fun Q ρ H locs cells slots real hG hL k => ?_)
      · rcases List.mem_cons.mp hv with rfl | hv
        · trivial
        · exact hs v (by simp [hv])
      · obtain ⟨g1, g2, g3, g4, g5, g6, g7, g8, g9, f1, f2, f3, f4, f5, f6, f7, f8, f9, f10, f11, f12, f13, f14, f15, f16⟩ := hG
        exact va_ti hx hb f7 g4 (ab_inOf q1 q2) rfl hd k
    · cases hop
  · cases hop
def ab_tten (nx : Nat) : ab_Op := fun ls st h => match st with
  | .int i :: .ref b :: rest => if b = 2 ∧ 0 ≤ i ∧ i.toNatClampNeg < 100 then some (.inl (nx, ls, .int (nI (48 + i.toNatClampNeg / 10)) :: rest, h)) else none
  | _ => none
theorem ab_tten_ok (hd : decode G.2.1 pc = .ok (.baload, 1)) : ab_OK K mt G pc (ab_tten (pc + 1)) := by
  intro p l e R s m args below meth c D cA A X ρ0 N0 k0 n0 ls st h r hop
  have X9 := X
  obtain ⟨hx, hb, hr, hml, hts, hown, hlk, hst, hnm, htb, hK, hA, hfr, hlo⟩ := X
  unfold ab_tten at hop
  split at hop
  · split at hop
    · rename_i i b rest hguard
      obtain ⟨rfl, q1, q2⟩ := hguard
      cases hop
      refine ab_stk (fun _ hs v hv => ?_) (fun Q ρ H locs cells slots real hG hL k => ?_)
      · rcases List.mem_cons.mp hv with rfl | hv
        · trivial
        · exact hs v (by simp [hv])
      · obtain ⟨g1, g2, g3, g4, g5, g6, g7, g8, g9, f1, f2, f3, f4, f5, f6, f7, f8, f9, f10, f11, f12, f13, f14, f15, f16⟩ := hG
        exact va_tb hx hb f10 g4 (ab_inOf q1 q2) rfl hd k
    · cases hop
  · cases hop
def ab_tone (nx : Nat) : ab_Op := fun ls st h => match st with
  | .int i :: .ref b :: rest => if b = 3 ∧ 0 ≤ i ∧ i.toNatClampNeg < 100 then some (.inl (nx, ls, .int (nI (48 + i.toNatClampNeg % 10)) :: rest, h)) else none
  | _ => none
theorem ab_tone_ok (hd : decode G.2.1 pc = .ok (.baload, 1)) : ab_OK K mt G pc (ab_tone (pc + 1)) := by
  intro p l e R s m args below meth c D cA A X ρ0 N0 k0 n0 ls st h r hop
  have X9 := X
  obtain ⟨hx, hb, hr, hml, hts, hown, hlk, hst, hnm, htb, hK, hA, hfr, hlo⟩ := X
  unfold ab_tone at hop
  split at hop
  · split at hop
    · rename_i i b rest hguard
      obtain ⟨rfl, q1, q2⟩ := hguard
      cases hop
      refine ab_stk (fun _ hs v hv => ?_) (fun Q ρ H locs cells slots real hG hL k => ?_)
      · rcases List.mem_cons.mp hv with rfl | hv
        · trivial
        · exact hs v (by simp [hv])
      · obtain ⟨g1, g2, g3, g4, g5, g6, g7, g8, g9, f1, f2, f3, f4, f5, f6, f7, f8, f9, f10, f11, f12, f13, f14, f15, f16⟩ := hG
        exact va_tb hx hb f12 g4 (ab_inOf q1 q2) rfl hd k
    · cases hop
  · cases hop
def ab_lmin (nx : Nat) : ab_Op := fun ls st h => match st with
  | .ref b :: rest => if b = 1 then some (.inl (nx, ls, .int 3 :: rest, h)) else none
  | _ => none
theorem ab_lmin_ok (hd : decode G.2.1 pc = .ok (.arraylength, 1)) : ab_OK K mt G pc (ab_lmin (pc + 1)) := by
  intro p l e R s m args below meth c D cA A X ρ0 N0 k0 n0 ls st h r hop
  have X9 := X
  obtain ⟨hx, hb, hr, hml, hts, hown, hlk, hst, hnm, htb, hK, hA, hfr, hlo⟩ := X
  unfold ab_lmin at hop
  split at hop
  · split at hop
    · rename_i b rest hguard
      subst hguard
      cases hop
      refine ab_stk (fun _ hs v hv => ?_) (fun Q ρ H locs cells slots real hG hL k => ?_)
      · rcases List.mem_cons.mp hv with rfl | hv
        · trivial
        · exact hs v (by simp [hv])
      · obtain ⟨g1, g2, g3, g4, g5, g6, g7, g8, g9, f1, f2, f3, f4, f5, f6, f7, f8, f9, f10, f11, f12, f13, f14, f15, f16⟩ := hG
        exact va_tlen hx hb f7 g4 (by decide) hd k
    · cases hop
  · cases hop
/-- the i-th text's bytes: length, a load; its fields -/
def ab_sid (b : Nat) : Nat := (b - 4) / 2
theorem ab_sid16 (b : Nat) (h : b = 4 + 2 * ab_sid b) (h2 : ab_sid b < 6) : b + 1 < 16 := by omega
def ab_slenb (nx : Nat) : ab_Op := fun ls st h => match st with
  | .ref b :: rest => if b = 5 + 2 * ab_sid b ∧ ab_sid b < 6 then some (.inl (nx, ls, .int (Int32.ofNat (ab_len.getD (ab_sid b) 0)) :: rest, h)) else none
  | _ => none
theorem ab_slenb_ok (hd : decode G.2.1 pc = .ok (.arraylength, 1)) : ab_OK K mt G pc (ab_slenb (pc + 1)) := by
  intro p l e R s m args below meth c D cA A X ρ0 N0 k0 n0 ls st h r hop
  have X9 := X
  obtain ⟨hx, hb, hr, hml, hts, hown, hlk, hst, hnm, htb, hK, hA, hfr, hlo⟩ := X
  unfold ab_slenb at hop
  split at hop
  · split at hop
    · rename_i b rest hguard
      cases hop
      refine ab_stk (fun _ hs v hv => ?_) (fun Q ρ H locs cells slots real hG hL k => ?_)
      · rcases List.mem_cons.mp hv with rfl | hv
        · trivial
        · exact hs v (by simp [hv])
      · obtain ⟨g1, g2, g3, g4, g5, g6, g7, g8, g9, f1, f2, f3, f4, f5, f6, f7, f8, f9, f10, f11, f12, f13, f14, f15, f16⟩ := hG
        have hT := (f14.1 _ hguard.2).2.2.2
        dsimp only at hT
        rw [← hguard.1] at hT
        exact va_tlen hx hb hT g4 rfl hd k
    · cases hop
  · cases hop
def ab_sldb (nx : Nat) : ab_Op := fun ls st h => match st with
  | .int i :: .ref b :: rest => if (b = 5 + 2 * ab_sid b ∧ ab_sid b < 6) ∧ 0 ≤ i ∧ i.toNatClampNeg < ab_len.getD (ab_sid b) 0 then some (.inl (nx, ls, .int ((ab_byt.getD (ab_sid b) []).getD i.toNatClampNeg 0) :: rest, h)) else none
  | _ => none
theorem ab_sldb_ok (hd : decode G.2.1 pc = .ok (.baload, 1)) : ab_OK K mt G pc (ab_sldb (pc + 1)) := by
  intro p l e R s m args below meth c D cA A X ρ0 N0 k0 n0 ls st h r hop
  have X9 := X
  obtain ⟨hx, hb, hr, hml, hts, hown, hlk, hst, hnm, htb, hK, hA, hfr, hlo⟩ := X
  unfold ab_sldb at hop
  split at hop
  · split at hop
    · rename_i i b rest hguard
      obtain ⟨⟨hb1, hb2⟩, q1, q2⟩ := hguard
      cases hop
      refine ab_stk (fun _ hs v hv => ?_) (fun Q ρ H locs cells slots real hG hL k => ?_)
      · rcases List.mem_cons.mp hv with rfl | hv
        · trivial
        · exact hs v (by simp [hv])
      · obtain ⟨g1, g2, g3, g4, g5, g6, g7, g8, g9, f1, f2, f3, f4, f5, f6, f7, f8, f9, f10, f11, f12, f13, f14, f15, f16⟩ := hG
        have hT := (f14.1 _ hb2).2.2.2
        dsimp only at hT
        rw [← hb1] at hT
        exact va_tb hx hb hT g4 (ab_inOf q1 q2) rfl hd k
    · cases hop
  · cases hop
def ab_sval (nx : Nat) : ab_Op := fun ls st h => match st with
  | .ref b :: rest => if (b = 4 + 2 * ab_sid b ∧ ab_sid b < 6) ∧ 16 ≤ h.2.1 then some (.inl (nx, ls, .ref (b + 1) :: rest, h)) else none
  | _ => none
theorem ab_sval_ok {index : Nat} (hd : decode G.2.1 pc = .ok (.getfield index, 3)) (hw : Cond.fieldLink G.1.cls index "java/lang/String" "value" "[B" ∈ ab_wG) : ab_OK K mt G pc (ab_sval (pc + 3)) := by
  intro p l e R s m args below meth c D cA A X ρ0 N0 k0 n0 ls st h r hop
  have X9 := X
  obtain ⟨hx, hb, hr, hml, hts, hown, hlk, hst, hnm, htb, hK, hA, hfr, hlo⟩ := X
  unfold ab_sval at hop
  split at hop
  · split at hop
    · rename_i b rest hguard
      obtain ⟨⟨hb1, hb2⟩, h16⟩ := hguard
      cases hop
      refine ab_stk (fun _ hs v hv => ?_) (fun Q ρ H locs cells slots real hG hL k => ?_)
      · rcases List.mem_cons.mp hv with rfl | hv
        · exact Nat.lt_of_lt_of_le (ab_sid16 b hb1 hb2) h16
        · exact hs v (by simp [hv])
      · obtain ⟨g1, g2, g3, g4, g5, g6, g7, g8, g9, f1, f2, f3, f4, f5, f6, f7, f8, f9, f10, f11, f12, f13, f14, f15, f16⟩ := hG
        have hT := (f14.1 _ hb2).2.2.1
        dsimp only at hT
        have h4 : @Eq Nat b (4 + 2 * ab_sid b) := hb1
        have h5 : @Eq Nat (5 + 2 * ab_sid b) (b + 1) := by omega
        rw [← hb1, h5] at hT
        exact vk_getf hx hb hT g4 hown (hts _ hw) (fun _ h9 => h9) hd k
    · cases hop
  · cases hop
def ab_scod (nx : Nat) : ab_Op := fun ls st h => match st with
  | .ref b :: rest => if b = 4 + 2 * ab_sid b ∧ ab_sid b < 6 then some (.inl (nx, ls, .int 0 :: rest, h)) else none
  | _ => none
theorem ab_scod_ok {index : Nat} (hd : decode G.2.1 pc = .ok (.getfield index, 3)) (hw : Cond.fieldLink G.1.cls index "java/lang/String" "coder" "B" ∈ ab_wG) : ab_OK K mt G pc (ab_scod (pc + 3)) := by
  intro p l e R s m args below meth c D cA A X ρ0 N0 k0 n0 ls st h r hop
  have X9 := X
  obtain ⟨hx, hb, hr, hml, hts, hown, hlk, hst, hnm, htb, hK, hA, hfr, hlo⟩ := X
  unfold ab_scod at hop
  split at hop
  · split at hop
    · rename_i b rest hguard
      cases hop
      refine ab_stk (fun _ hs v hv => ?_) (fun Q ρ H locs cells slots real hG hL k => ?_)
      · rcases List.mem_cons.mp hv with rfl | hv
        · trivial
        · exact hs v (by simp [hv])
      · obtain ⟨g1, g2, g3, g4, g5, g6, g7, g8, g9, f1, f2, f3, f4, f5, f6, f7, f8, f9, f10, f11, f12, f13, f14, f15, f16⟩ := hG
        have hT := (f14.1 _ hguard.2).2.1
        dsimp only at hT
        rw [← hguard.1] at hT
        exact vk_getf hx hb hT g4 hown (hts _ hw) (fun _ h9 => h9) hd k
    · cases hop
  · cases hop
/-- the script -/
def ab_scr (K : ab_Kt) (nx : Nat) : ab_Op := fun ls st h => match st with
  | .int i :: .ref b :: rest => if b = 0 ∧ 0 ≤ i ∧ i.toNatClampNeg < K.1 then some (.inl (nx, ls, .int (K.2.1 i.toNatClampNeg) :: rest, h)) else none
  | _ => none
theorem ab_scr_ok (hd : decode G.2.1 pc = .ok (.iaload, 1)) : ab_OK K mt G pc (ab_scr K (pc + 1)) := by
  intro p l e R s m args below meth c D cA A X ρ0 N0 k0 n0 ls st h r hop
  have X9 := X
  obtain ⟨hx, hb, hr, hml, hts, hown, hlk, hst, hnm, htb, hK, hA, hfr, hlo⟩ := X
  unfold ab_scr at hop
  split at hop
  · split at hop
    · rename_i i b rest hguard
      obtain ⟨rfl, q1, q2⟩ := hguard
      cases hop
      refine ab_stk (fun _ hs v hv => ?_) (fun Q ρ H locs cells slots real hG hL k => ?_)
      · rcases List.mem_cons.mp hv with rfl | hv
        · trivial
        · exact hs v (by simp [hv])
      · obtain ⟨g1, g2, g3, g4, g5, g6, g7, g8, g9, f1, f2, f3, f4, f5, f6, f7, f8, f9, f10, f11, f12, f13, f14, f15, f16⟩ := hG
        exact va_sld hx hb (f1.kept (by rfl)) f2 f3 g4 (ab_inOf q1 q2) hd k
    · cases hop
  · cases hop
def ab_scl (K : ab_Kt) (nx : Nat) : ab_Op := fun ls st h => match st with
  | .ref b :: rest => if b = 0 then some (.inl (nx, ls, .int (nI K.1) :: rest, h)) else none
  | _ => none
theorem ab_scl_ok (hd : decode G.2.1 pc = .ok (.arraylength, 1)) : ab_OK K mt G pc (ab_scl K (pc + 1)) := by
  intro p l e R s m args below meth c D cA A X ρ0 N0 k0 n0 ls st h r hop
  have X9 := X
  obtain ⟨hx, hb, hr, hml, hts, hown, hlk, hst, hnm, htb, hK, hA, hfr, hlo⟩ := X
  unfold ab_scl at hop
  split at hop
  · split at hop
    · rename_i b rest hguard
      subst hguard
      cases hop
      refine ab_stk (fun _ hs v hv => ?_) (fun Q ρ H locs cells slots real hG hL k => ?_)
      · rcases List.mem_cons.mp hv with rfl | hv
        · trivial
        · exact hs v (by simp [hv])
      · obtain ⟨g1, g2, g3, g4, g5, g6, g7, g8, g9, f1, f2, f3, f4, f5, f6, f7, f8, f9, f10, f11, f12, f13, f14, f15, f16⟩ := hG
        exact va_slen hx hb f1 f2 f3 g4 hd k
    · cases hop
  · cases hop
/-- ends -/
theorem ab_ends {p : Program} {l : Launch} {e : Env} {R : Room} {s : State} {m : MethodId} {args : Array Value} {below : List Frame} {meth : Method} {c : Code} {D : va_G} {cA : Nat → ClassId} {A : Nat → Prop} {K : ab_Kt} {ρ0 : Nat → Nat} {N0 k0 n0 : Nat} {ls : ab_Ls} {st : List Value} {h : ab_H} {v : Option Value}
    (hv : ∀ w, v = some w → w ∈ st)
    (row : ∀ (ρ : Nat → Nat) (H : Heap) (locs : List Loc) (real : Array Slot), (∀ t : State, t.heap = H → s.WarmedH t.vm → ab_Qc D cA A ρ0 N0 (.inl v) h args s (.returned (v.map (ab_v ρ))) t) → (∀ q ∈ locs, A q.base) → W p l e R s m args below meth c H locs R.cells R.slots (MQ below (ab_Qc D cA A ρ0 N0 (.inl v) h) args s R.cells R.slots A) (F0 m pc real (st.map (ab_v ρ)))) :
    ab_res mt G p l e R s m args below meth c D cA A K ρ0 N0 k0 n0 pc ls st h (.inr (.inl (.inl v, h))) := by
  refine ⟨⟨Nat.le_refl _, Nat.le_refl _⟩, fun hc1 hc2 ρ H locs cells slots real hG hL hlo hso => ?_⟩
  obtain ⟨g1, g2, g3, g4, g5, g6, g7, g8, g9, g10⟩ := hG
  refine W.widen (k := R.cells) (n := R.slots) (by omega) (by omega) (vx_ret (row ρ H locs real (fun t ht hW => ⟨⟨v, ρ, rfl, rfl, by rw [ht]; exact g1, g2, g3, g7, g8, fun w hw => hso w (hv w hw)⟩, g4.F ht⟩) g4.2.2))
def ab_iret : ab_Op := fun ls st h => match st with
  | [.int x] => some (.inr (.inl (.inl (some (.int x)), h)))
  | _ => none
theorem ab_iret_ok (hd : decode G.2.1 pc = .ok (.ireturn, 1)) (hrt : G.2.2.2.1 = some .int) : ab_OK K mt G pc ab_iret := by
  intro p l e R s m args below meth c D cA A X ρ0 N0 k0 n0 ls st h r hop
  have X9 := X
  obtain ⟨hx, hb, hr, hml, hts, hown, hlk, hst, hnm, htb, hK, hA, hfr, hlo⟩ := X
  unfold ab_iret at hop
  split at hop
  · cases hop
    exact ab_ends (by simp) (fun ρ H locs real hq hf => W.iret hx hb (hr.trans hrt) hq hf hd hlk)
  · cases hop
def ab_zret : ab_Op := fun ls st h => match st with
  | [.int x] => if x = 0 ∨ x = 1 then some (.inr (.inl (.inl (some (.int x)), h))) else none
  | _ => none
theorem ab_zret_ok (hd : decode G.2.1 pc = .ok (.ireturn, 1)) (hrt : G.2.2.2.1 = some .boolean) : ab_OK K mt G pc ab_zret := by
  intro p l e R s m args below meth c D cA A X ρ0 N0 k0 n0 ls st h r hop
  have X9 := X
  obtain ⟨hx, hb, hr, hml, hts, hown, hlk, hst, hnm, htb, hK, hA, hfr, hlo⟩ := X
  unfold ab_zret at hop
  split at hop
  · split at hop
    · rename_i hguard
      cases hop
      exact ab_ends (by simp) (fun ρ H locs real hq hf => W.zret hx hb (hr.trans hrt) (by rcases hguard with rfl | rfl <;> decide) hq hf hd hlk)
    · cases hop
  · cases hop
def ab_cret : ab_Op := fun ls st h => match st with
  | [.int x] => if 0 ≤ x ∧ x ≤ 65535 then some (.inr (.inl (.inl (some (.int x)), h))) else none
  | _ => none
theorem ab_cret_ok (hd : decode G.2.1 pc = .ok (.ireturn, 1)) (hrt : G.2.2.2.1 = some .char) : ab_OK K mt G pc ab_cret := by
  intro p l e R s m args below meth c D cA A X ρ0 N0 k0 n0 ls st h r hop
  have X9 := X
  obtain ⟨hx, hb, hr, hml, hts, hown, hlk, hst, hnm, htb, hK, hA, hfr, hlo⟩ := X
  unfold ab_cret at hop
  split at hop
  · split at hop
    · rename_i hguard
      cases hop
      exact ab_ends (by simp) (fun ρ H locs real hq hf => W.zret hx hb (hr.trans hrt) (ab_char hguard.1 hguard.2).1 hq hf hd hlk)
    · cases hop
  · cases hop
def ab_bret : ab_Op := fun ls st h => match st with
  | [.int x] => if x = 0 then some (.inr (.inl (.inl (some (.int x)), h))) else none
  | _ => none
theorem ab_bret_ok (hd : decode G.2.1 pc = .ok (.ireturn, 1)) (hrt : G.2.2.2.1 = some .byte) : ab_OK K mt G pc ab_bret := by
  intro p l e R s m args below meth c D cA A X ρ0 N0 k0 n0 ls st h r hop
  have X9 := X
  obtain ⟨hx, hb, hr, hml, hts, hown, hlk, hst, hnm, htb, hK, hA, hfr, hlo⟩ := X
  unfold ab_bret at hop
  split at hop
  · split at hop
    · rename_i hguard
      cases hop
      exact ab_ends (by simp) (fun ρ H locs real hq hf => W.zret hx hb (hr.trans hrt) (by rw [hguard]; decide) hq hf hd hlk)
    · cases hop
  · cases hop
def ab_fret : ab_Op := fun ls st h => match st with
  | [.float x] => some (.inr (.inl (.inl (some (.float x)), h)))
  | _ => none
theorem ab_fret_ok (hd : decode G.2.1 pc = .ok (.freturn, 1)) (hrt : G.2.2.2.1 = some .float) : ab_OK K mt G pc ab_fret := by
  intro p l e R s m args below meth c D cA A X ρ0 N0 k0 n0 ls st h r hop
  have X9 := X
  obtain ⟨hx, hb, hr, hml, hts, hown, hlk, hst, hnm, htb, hK, hA, hfr, hlo⟩ := X
  unfold ab_fret at hop
  split at hop
  · cases hop
    exact ab_ends (by simp) (fun ρ H locs real hq hf => W.fret hx hb (hr.trans hrt) hq hf hd hlk)
  · cases hop
def ab_dret : ab_Op := fun ls st h => match st with
  | [.double x] => some (.inr (.inl (.inl (some (.double x)), h)))
  | _ => none
theorem ab_dret_ok (hd : decode G.2.1 pc = .ok (.dreturn, 1)) (hrt : G.2.2.2.1 = some .double) : ab_OK K mt G pc ab_dret := by
  intro p l e R s m args below meth c D cA A X ρ0 N0 k0 n0 ls st h r hop
  have X9 := X
  obtain ⟨hx, hb, hr, hml, hts, hown, hlk, hst, hnm, htb, hK, hA, hfr, hlo⟩ := X
  unfold ab_dret at hop
  split at hop
  · cases hop
    exact ab_ends (by simp) (fun ρ H locs real hq hf => W.dret hx hb (hr.trans hrt) hq hf hd hlk)
  · cases hop
def ab_aret : ab_Op := fun ls st h => match st with
  | [.ref x] => some (.inr (.inl (.inl (some (.ref x)), h)))
  | _ => none
theorem ab_aret_ok {rt : FieldType} (hd : decode G.2.1 pc = .ok (.areturn, 1)) (hrt9 : (∃ n, rt = .object n) ∨ ∃ t, rt = .array t) (hrt : G.2.2.2.1 = some rt) : ab_OK K mt G pc ab_aret := by
  intro p l e R s m args below meth c D cA A X ρ0 N0 k0 n0 ls st h r hop
  have X9 := X
  obtain ⟨hx, hb, hr, hml, hts, hown, hlk, hst, hnm, htb, hK, hA, hfr, hlo⟩ := X
  unfold ab_aret at hop
  split at hop
  · cases hop
    exact ab_ends (by simp) (fun ρ H locs real hq hf => W.aret hx hb (hr.trans hrt) hrt9 (Or.inr ⟨_, rfl⟩) hq hf hd hlk)
  · cases hop
def ab_vret : ab_Op := fun ls st h => match st with
  | [] => some (.inr (.inl (.inl none, h)))
  | _ => none
theorem ab_vret_ok (hd : decode G.2.1 pc = .ok (.return_, 1)) (hrt : G.2.2.2.1 = none) : ab_OK K mt G pc ab_vret := by
  intro p l e R s m args below meth c D cA A X ρ0 N0 k0 n0 ls st h r hop
  have X9 := X
  obtain ⟨hx, hb, hr, hml, hts, hown, hlk, hst, hnm, htb, hK, hA, hfr, hlo⟩ := X
  unfold ab_vret at hop
  split at hop
  · cases hop
    exact ab_ends (by simp) (fun ρ H locs real hq hf => W.vret hx hb (hr.trans hrt) hq hf hd hlk)
  · cases hop
/-- 'throw new E()' -/
def ab_thr (E : String) : ab_Op := fun ls st h => match st with
  | [] => some (.inr (.inl (.inr E, (h.1, h.2.1, h.2.2.1 + 1, h.2.2.2 + 6))))
  | _ => none
theorem ab_thr_ok {E : String} {ik ic : Nat} (hcls : Bundle.fit E = true) (hw : ∀ w ∈ [Cond.classLink G.1.cls ik E, .initialized E], w ∈ ab_wG)
    (hat : ∀ w ∈ (vx_at0 G.1.cls ic E ["java/lang/RuntimeException", "java/lang/Exception"]), w ∈ ab_wG ∨ w ∈ ab_nw) (hgood : ∀ w ∈ Cond.classLink G.1.cls ik E :: Cond.initialized E :: vx_at0 G.1.cls ic E ["java/lang/RuntimeException", "java/lang/Exception"], vx_ot w = true)
    (d0 : decode G.2.1 pc = .ok (.new ik, 3)) (d3 : decode G.2.1 (pc + 3) = .ok (.dup, 1)) (d4 : decode G.2.1 (pc + 4) = .ok (.invokespecial ic, 3)) (d7 : decode G.2.1 (pc + 7) = .ok (.athrow, 1)) (hh : G.2.2.2.2.1 = []) : ab_OK K mt G pc (ab_thr E) := by
  intro p l e R s m args below meth c D cA A X ρ0 N0 k0 n0 ls st h r hop
  have X9 := X
  obtain ⟨hx, hb, hr, hml, hts, hown, hlk, hst, hnm, htb, hK, hA, hfr, hlo⟩ := X
  unfold ab_thr at hop
  split at hop
  · cases hop
    refine ⟨⟨Nat.le_succ _, Nat.le_add_right _ _⟩, fun hc1 hc2 ρ H locs cells slots real hG hL hlo9 hso => ?_⟩
    obtain ⟨g1, g2, g3, g4, g5, g6, g7, g8, g9, f1, f2, f3, f4, f5, f6, f7, f8, f9, f10, f11, f12, f13, f14, f15, f16⟩ := hG
    have hcc : cells + 1 ≤ R.cells := by have : h.2.2.1 + 1 ≤ k0 + R.cells := hc1; omega
    have hss : slots + 6 ≤ R.slots := by have : h.2.2.2 + 6 ≤ n0 + R.slots := hc2; omega
    refine vx_throw0 (A := A) (names := ["java/lang/RuntimeException", "java/lang/Exception"]) hx hb hst hown hcls (by decide +kernel) (hts _ (hw _ (by simp))) (hts _ (hw _ (by simp))) (fun w h9 => (hat w h9).elim (hts w) (fun e9 => va_Nw.use (ab_nw_tab e9) (f16.1 _ e9))) hgood f4 f5 g4 (hL.1.trans hml.symm) d0 d3 d4 d7
      (by rw [htb, hh]; intro x hx9; cases hx9) (by show 2 + 3 < _; omega) (by show 0 + (13 * 3 + 42) ≤ _; omega) hcc hss hlk (fun t hal hz hkeep => ?_) g4.2.2 hcc hss
    refine ⟨⟨ρ, rfl, fun i c0 hi => (g1 i c0 hi).kept (hkeep _ (g1 i c0 hi).lt), g2, g3, g7, g8⟩, ⟨Nat.le_trans g4.1 hz, fun q h1 h2 => ?_⟩⟩
    rw [hkeep q (Nat.lt_of_lt_of_le h1 g4.1)]
    exact g4.2.1 q h1 h2
  · cases hop
end
