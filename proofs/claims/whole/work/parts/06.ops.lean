/-! ===== the rows of the abstract machine, each over the kit's own row ===== -/
section
variable {K : ab_Kt} {mt : Nat → ab_M} {G : ab_M} {pc : Nat}
/-- a row that changes the stack alone -/
theorem ab_stk {p : Program} {l : Launch} {e : Env} {R : Room} {s : State} {m : MethodId} {args : Array Value} {below : List Frame} {meth : Method} {c : Code} {D : va_G} {cA : Nat → ClassId} {A : Nat → Prop} {K : ab_Kt} {ρ0 : Nat → Nat} {N0 k0 n0 : Nat} {ls : ab_Ls} {st st' : List Value} {h : ab_H} {pc' : Nat}
    (hs : (∀ v, some v ∈ ls → ab_ok h.2.1 v) → (∀ v ∈ st, ab_ok h.2.1 v) → ∀ v ∈ st', ab_ok h.2.1 v)
    (row : ∀ (Q : State → Prop) (ρ : Nat → Nat) (H : Heap) (locs : List Loc) (cells slots : Nat) (real : Array Slot), ab_G R s D cA A K ρ0 N0 k0 n0 h ρ H locs cells slots → ab_L real G.2.2.1 ls ρ → W p l e R s m args below meth c H locs cells slots Q (F0 m pc' real (st'.map (ab_v ρ))) → W p l e R s m args below meth c H locs cells slots Q (F0 m pc real (st.map (ab_v ρ)))) :
    ab_res mt G p l e R s m args below meth c D cA A K ρ0 N0 k0 n0 pc ls st h (.inl (pc', ls, st', h)) := by
  refine ⟨⟨Nat.le_refl _, Nat.le_refl _⟩, fun Q _ _ k ρ H locs cells slots real hG hL hlo hso => ?_⟩
  exact row Q ρ H locs cells slots real hG hL (k ρ H locs cells slots real hG hL hlo (hs hlo hso))
/-- a row that stores into a local -/
theorem ab_sto {p : Program} {l : Launch} {e : Env} {R : Room} {s : State} {m : MethodId} {args : Array Value} {below : List Frame} {meth : Method} {c : Code} {D : va_G} {cA : Nat → ClassId} {A : Nat → Prop} {K : ab_Kt} {ρ0 : Nat → Nat} {N0 k0 n0 : Nat} {ls ls' : ab_Ls} {st st' : List Value} {h : ab_H} {pc' : Nat}
    (hs : (∀ v, some v ∈ ls → ab_ok h.2.1 v) → (∀ v ∈ st, ab_ok h.2.1 v) → (∀ v ∈ st', ab_ok h.2.1 v) ∧ ∀ v, some v ∈ ls' → ab_ok h.2.1 v)
    (row : ∀ (Q : State → Prop) (ρ : Nat → Nat) (H : Heap) (locs : List Loc) (cells slots : Nat) (real : Array Slot), ab_L real G.2.2.1 ls ρ → (∀ real' : Array Slot, ab_L real' G.2.2.1 ls' ρ → W p l e R s m args below meth c H locs cells slots Q (F0 m pc' real' (st'.map (ab_v ρ)))) → W p l e R s m args below meth c H locs cells slots Q (F0 m pc real (st.map (ab_v ρ)))) :
    ab_res mt G p l e R s m args below meth c D cA A K ρ0 N0 k0 n0 pc ls st h (.inl (pc', ls', st', h)) := by
  refine ⟨⟨Nat.le_refl _, Nat.le_refl _⟩, fun Q _ _ k ρ H locs cells slots real hG hL hlo hso => ?_⟩
  exact row Q ρ H locs cells slots real hL (fun real' hL' => k ρ H locs cells slots real' hG hL' (hs hlo hso).2 (hs hlo hso).1)
theorem ab_oks {ls : ab_Ls} {N i : Nat} {v : Value} (h : ∀ w, some w ∈ ls → ab_ok N w) (hv : ab_ok N v) : ∀ w, some w ∈ ls.set i (some v) → ab_ok N w := by
  intro w hw
  rcases List.mem_or_eq_of_mem_set hw with h1 | h1
  · exact h w h1
  · cases h1
    exact hv
theorem ab_oks0 {ls : ab_Ls} {N i : Nat} (h : ∀ w, some w ∈ ls → ab_ok N w) : ∀ w, some w ∈ ls.set i none → ab_ok N w := by
  intro w hw
  rcases List.mem_or_eq_of_mem_set hw with h1 | h1
  · exact h w h1
  · cases h1

def ab_iadd (nx : Nat) : ab_Op := fun ls st h => match st with
  | .int y :: .int x :: rest => some (.inl (nx, ls, .int (x + y) :: rest, h))
  | _ => none
theorem ab_iadd_ok  (hd : decode G.2.1 pc = .ok (.iadd, 1)) : ab_OK K mt G pc (ab_iadd (pc + 1)) := by
  intro p l e R s m args below meth c D cA A X ρ0 N0 k0 n0 ls st h r hop
  obtain ⟨hx, hb, hr, hml, hts, hown, hlk, hst, hnm, htb, hK, hA, hfr, hlo⟩ := X
  unfold ab_iadd at hop
  split at hop
  · skip
    cases hop
    exact ab_stk (by intro hl hs; simp_all [ab_ok]) (fun Q ρ H locs cells slots real hG hL k => lv_iadd hx hb hd k)
  · cases hop
def ab_isub (nx : Nat) : ab_Op := fun ls st h => match st with
  | .int y :: .int x :: rest => some (.inl (nx, ls, .int (x - y) :: rest, h))
  | _ => none
theorem ab_isub_ok  (hd : decode G.2.1 pc = .ok (.isub, 1)) : ab_OK K mt G pc (ab_isub (pc + 1)) := by
  intro p l e R s m args below meth c D cA A X ρ0 N0 k0 n0 ls st h r hop
  obtain ⟨hx, hb, hr, hml, hts, hown, hlk, hst, hnm, htb, hK, hA, hfr, hlo⟩ := X
  unfold ab_isub at hop
  split at hop
  · skip
    cases hop
    exact ab_stk (by intro hl hs; simp_all [ab_ok]) (fun Q ρ H locs cells slots real hG hL k => lv_isub hx hb hd k)
  · cases hop
def ab_imul (nx : Nat) : ab_Op := fun ls st h => match st with
  | .int y :: .int x :: rest => some (.inl (nx, ls, .int (x * y) :: rest, h))
  | _ => none
theorem ab_imul_ok  (hd : decode G.2.1 pc = .ok (.imul, 1)) : ab_OK K mt G pc (ab_imul (pc + 1)) := by
  intro p l e R s m args below meth c D cA A X ρ0 N0 k0 n0 ls st h r hop
  obtain ⟨hx, hb, hr, hml, hts, hown, hlk, hst, hnm, htb, hK, hA, hfr, hlo⟩ := X
  unfold ab_imul at hop
  split at hop
  · skip
    cases hop
    exact ab_stk (by intro hl hs; simp_all [ab_ok]) (fun Q ρ H locs cells slots real hG hL k => lv_imul hx hb hd k)
  · cases hop
def ab_iand (nx : Nat) : ab_Op := fun ls st h => match st with
  | .int y :: .int x :: rest => some (.inl (nx, ls, .int (x &&& y) :: rest, h))
  | _ => none
theorem ab_iand_ok  (hd : decode G.2.1 pc = .ok (.iand, 1)) : ab_OK K mt G pc (ab_iand (pc + 1)) := by
  intro p l e R s m args below meth c D cA A X ρ0 N0 k0 n0 ls st h r hop
  obtain ⟨hx, hb, hr, hml, hts, hown, hlk, hst, hnm, htb, hK, hA, hfr, hlo⟩ := X
  unfold ab_iand at hop
  split at hop
  · skip
    cases hop
    exact ab_stk (by intro hl hs; simp_all [ab_ok]) (fun Q ρ H locs cells slots real hG hL k => lv_iand hx hb hd k)
  · cases hop
def ab_ior (nx : Nat) : ab_Op := fun ls st h => match st with
  | .int y :: .int x :: rest => some (.inl (nx, ls, .int (x ||| y) :: rest, h))
  | _ => none
theorem ab_ior_ok  (hd : decode G.2.1 pc = .ok (.ior, 1)) : ab_OK K mt G pc (ab_ior (pc + 1)) := by
  intro p l e R s m args below meth c D cA A X ρ0 N0 k0 n0 ls st h r hop
  obtain ⟨hx, hb, hr, hml, hts, hown, hlk, hst, hnm, htb, hK, hA, hfr, hlo⟩ := X
  unfold ab_ior at hop
  split at hop
  · skip
    cases hop
    exact ab_stk (by intro hl hs; simp_all [ab_ok]) (fun Q ρ H locs cells slots real hG hL k => lv_ior hx hb hd k)
  · cases hop
def ab_ixor (nx : Nat) : ab_Op := fun ls st h => match st with
  | .int y :: .int x :: rest => some (.inl (nx, ls, .int (x ^^^ y) :: rest, h))
  | _ => none
theorem ab_ixor_ok  (hd : decode G.2.1 pc = .ok (.ixor, 1)) : ab_OK K mt G pc (ab_ixor (pc + 1)) := by
  intro p l e R s m args below meth c D cA A X ρ0 N0 k0 n0 ls st h r hop
  obtain ⟨hx, hb, hr, hml, hts, hown, hlk, hst, hnm, htb, hK, hA, hfr, hlo⟩ := X
  unfold ab_ixor at hop
  split at hop
  · skip
    cases hop
    exact ab_stk (by intro hl hs; simp_all [ab_ok]) (fun Q ρ H locs cells slots real hG hL k => lv_ixor hx hb hd k)
  · cases hop
def ab_ishl (nx : Nat) : ab_Op := fun ls st h => match st with
  | .int y :: .int x :: rest => some (.inl (nx, ls, .int (x <<< (y &&& 31)) :: rest, h))
  | _ => none
theorem ab_ishl_ok  (hd : decode G.2.1 pc = .ok (.ishl, 1)) : ab_OK K mt G pc (ab_ishl (pc + 1)) := by
  intro p l e R s m args below meth c D cA A X ρ0 N0 k0 n0 ls st h r hop
  obtain ⟨hx, hb, hr, hml, hts, hown, hlk, hst, hnm, htb, hK, hA, hfr, hlo⟩ := X
  unfold ab_ishl at hop
  split at hop
  · skip
    cases hop
    exact ab_stk (by intro hl hs; simp_all [ab_ok]) (fun Q ρ H locs cells slots real hG hL k => lv_ishl hx hb hd k)
  · cases hop
def ab_ishr (nx : Nat) : ab_Op := fun ls st h => match st with
  | .int y :: .int x :: rest => some (.inl (nx, ls, .int (x >>> (y &&& 31)) :: rest, h))
  | _ => none
theorem ab_ishr_ok  (hd : decode G.2.1 pc = .ok (.ishr, 1)) : ab_OK K mt G pc (ab_ishr (pc + 1)) := by
  intro p l e R s m args below meth c D cA A X ρ0 N0 k0 n0 ls st h r hop
  obtain ⟨hx, hb, hr, hml, hts, hown, hlk, hst, hnm, htb, hK, hA, hfr, hlo⟩ := X
  unfold ab_ishr at hop
  split at hop
  · skip
    cases hop
    exact ab_stk (by intro hl hs; simp_all [ab_ok]) (fun Q ρ H locs cells slots real hG hL k => lv_ishr hx hb hd k)
  · cases hop
def ab_idiv (nx : Nat) : ab_Op := fun ls st h => match st with
  | .int y :: .int x :: rest => if ¬ y = 0 then some (.inl (nx, ls, .int (x / y) :: rest, h)) else none
  | _ => none
theorem ab_idiv_ok  (hd : decode G.2.1 pc = .ok (.idiv, 1)) : ab_OK K mt G pc (ab_idiv (pc + 1)) := by
  intro p l e R s m args below meth c D cA A X ρ0 N0 k0 n0 ls st h r hop
  obtain ⟨hx, hb, hr, hml, hts, hown, hlk, hst, hnm, htb, hK, hA, hfr, hlo⟩ := X
  unfold ab_idiv at hop
  split at hop
  · skip
    split at hop
    · rename_i hguard
      cases hop
      exact ab_stk (by intro hl hs; simp_all [ab_ok]) (fun Q ρ H locs cells slots real hG hL k => lv_idiv hx hb hd hguard k)
    · cases hop
  · cases hop
def ab_irem (nx : Nat) : ab_Op := fun ls st h => match st with
  | .int y :: .int x :: rest => if ¬ y = 0 then some (.inl (nx, ls, .int (x - x / y * y) :: rest, h)) else none
  | _ => none
theorem ab_irem_ok  (hd : decode G.2.1 pc = .ok (.irem, 1)) : ab_OK K mt G pc (ab_irem (pc + 1)) := by
  intro p l e R s m args below meth c D cA A X ρ0 N0 k0 n0 ls st h r hop
  obtain ⟨hx, hb, hr, hml, hts, hown, hlk, hst, hnm, htb, hK, hA, hfr, hlo⟩ := X
  unfold ab_irem at hop
  split at hop
  · skip
    split at hop
    · rename_i hguard
      cases hop
      exact ab_stk (by intro hl hs; simp_all [ab_ok]) (fun Q ρ H locs cells slots real hG hL k => lv_irem hx hb hd hguard k)
    · cases hop
  · cases hop
def ab_ineg (nx : Nat) : ab_Op := fun ls st h => match st with
  | .int x :: rest => some (.inl (nx, ls, .int (-x) :: rest, h))
  | _ => none
theorem ab_ineg_ok  (hd : decode G.2.1 pc = .ok (.ineg, 1)) : ab_OK K mt G pc (ab_ineg (pc + 1)) := by
  intro p l e R s m args below meth c D cA A X ρ0 N0 k0 n0 ls st h r hop
  obtain ⟨hx, hb, hr, hml, hts, hown, hlk, hst, hnm, htb, hK, hA, hfr, hlo⟩ := X
  unfold ab_ineg at hop
  split at hop
  · skip
    cases hop
    exact ab_stk (by intro hl hs; simp_all [ab_ok]) (fun Q ρ H locs cells slots real hG hL k => lv_ineg hx hb hd k)
  · cases hop
def ab_land (nx : Nat) : ab_Op := fun ls st h => match st with
  | .long y :: .long x :: rest => some (.inl (nx, ls, .long (x &&& y) :: rest, h))
  | _ => none
theorem ab_land_ok  (hd : decode G.2.1 pc = .ok (.land, 1)) : ab_OK K mt G pc (ab_land (pc + 1)) := by
  intro p l e R s m args below meth c D cA A X ρ0 N0 k0 n0 ls st h r hop
  obtain ⟨hx, hb, hr, hml, hts, hown, hlk, hst, hnm, htb, hK, hA, hfr, hlo⟩ := X
  unfold ab_land at hop
  split at hop
  · skip
    cases hop
    exact ab_stk (by intro hl hs; simp_all [ab_ok]) (fun Q ρ H locs cells slots real hG hL k => lv_land hx hb hd k)
  · cases hop
def ab_lor (nx : Nat) : ab_Op := fun ls st h => match st with
  | .long y :: .long x :: rest => some (.inl (nx, ls, .long (x ||| y) :: rest, h))
  | _ => none
theorem ab_lor_ok  (hd : decode G.2.1 pc = .ok (.lor, 1)) : ab_OK K mt G pc (ab_lor (pc + 1)) := by
  intro p l e R s m args below meth c D cA A X ρ0 N0 k0 n0 ls st h r hop
  obtain ⟨hx, hb, hr, hml, hts, hown, hlk, hst, hnm, htb, hK, hA, hfr, hlo⟩ := X
  unfold ab_lor at hop
  split at hop
  · skip
    cases hop
    exact ab_stk (by intro hl hs; simp_all [ab_ok]) (fun Q ρ H locs cells slots real hG hL k => lv_lor hx hb hd k)
  · cases hop
def ab_lshl (nx : Nat) : ab_Op := fun ls st h => match st with
  | .int y :: .long x :: rest => some (.inl (nx, ls, .long (x <<< (y.toInt64 &&& 63)) :: rest, h))
  | _ => none
theorem ab_lshl_ok  (hd : decode G.2.1 pc = .ok (.lshl, 1)) : ab_OK K mt G pc (ab_lshl (pc + 1)) := by
  intro p l e R s m args below meth c D cA A X ρ0 N0 k0 n0 ls st h r hop
  obtain ⟨hx, hb, hr, hml, hts, hown, hlk, hst, hnm, htb, hK, hA, hfr, hlo⟩ := X
  unfold ab_lshl at hop
  split at hop
  · skip
    cases hop
    exact ab_stk (by intro hl hs; simp_all [ab_ok]) (fun Q ρ H locs cells slots real hG hL k => lv_lshl hx hb hd rfl k)
  · cases hop
def ab_lushr (nx : Nat) : ab_Op := fun ls st h => match st with
  | .int y :: .long x :: rest => some (.inl (nx, ls, .long ((x.toUInt64 >>> (y.toInt64.toUInt64 &&& Int64.toUInt64 63)).toInt64) :: rest, h))
  | _ => none
theorem ab_lushr_ok  (hd : decode G.2.1 pc = .ok (.lushr, 1)) : ab_OK K mt G pc (ab_lushr (pc + 1)) := by
  intro p l e R s m args below meth c D cA A X ρ0 N0 k0 n0 ls st h r hop
  obtain ⟨hx, hb, hr, hml, hts, hown, hlk, hst, hnm, htb, hK, hA, hfr, hlo⟩ := X
  unfold ab_lushr at hop
  split at hop
  · skip
    cases hop
    exact ab_stk (by intro hl hs; simp_all [ab_ok]) (fun Q ρ H locs cells slots real hG hL k => lv_lushr hx hb hd rfl k)
  · cases hop
def ab_lcmp (nx : Nat) : ab_Op := fun ls st h => match st with
  | .long y :: .long x :: rest => some (.inl (nx, ls, .int (lg_cmp x y) :: rest, h))
  | _ => none
theorem ab_lcmp_ok  (hd : decode G.2.1 pc = .ok (.lcmp, 1)) : ab_OK K mt G pc (ab_lcmp (pc + 1)) := by
  intro p l e R s m args below meth c D cA A X ρ0 N0 k0 n0 ls st h r hop
  obtain ⟨hx, hb, hr, hml, hts, hown, hlk, hst, hnm, htb, hK, hA, hfr, hlo⟩ := X
  unfold ab_lcmp at hop
  split at hop
  · skip
    cases hop
    exact ab_stk (by intro hl hs; simp_all [ab_ok]) (fun Q ρ H locs cells slots real hG hL k => W.lcmp hx hb hd k)
  · cases hop
def ab_i2l (nx : Nat) : ab_Op := fun ls st h => match st with
  | .int x :: rest => some (.inl (nx, ls, .long x.toInt64 :: rest, h))
  | _ => none
theorem ab_i2l_ok  (hd : decode G.2.1 pc = .ok (.i2l, 1)) : ab_OK K mt G pc (ab_i2l (pc + 1)) := by
  intro p l e R s m args below meth c D cA A X ρ0 N0 k0 n0 ls st h r hop
  obtain ⟨hx, hb, hr, hml, hts, hown, hlk, hst, hnm, htb, hK, hA, hfr, hlo⟩ := X
  unfold ab_i2l at hop
  split at hop
  · skip
    cases hop
    exact ab_stk (by intro hl hs; simp_all [ab_ok]) (fun Q ρ H locs cells slots real hG hL k => lv_i2l hx hb hd rfl k)
  · cases hop
def ab_i2b (nx : Nat) : ab_Op := fun ls st h => match st with
  | .int x :: rest => some (.inl (nx, ls, .int x.toInt8.toInt32 :: rest, h))
  | _ => none
theorem ab_i2b_ok  (hd : decode G.2.1 pc = .ok (.i2b, 1)) : ab_OK K mt G pc (ab_i2b (pc + 1)) := by
  intro p l e R s m args below meth c D cA A X ρ0 N0 k0 n0 ls st h r hop
  obtain ⟨hx, hb, hr, hml, hts, hown, hlk, hst, hnm, htb, hK, hA, hfr, hlo⟩ := X
  unfold ab_i2b at hop
  split at hop
  · skip
    cases hop
    exact ab_stk (by intro hl hs; simp_all [ab_ok]) (fun Q ρ H locs cells slots real hG hL k => lv_i2b hx hb hd rfl k)
  · cases hop
def ab_i2c (nx : Nat) : ab_Op := fun ls st h => match st with
  | .int x :: rest => some (.inl (nx, ls, .int (x.toUInt32 % 65536).toInt32 :: rest, h))
  | _ => none
theorem ab_i2c_ok  (hd : decode G.2.1 pc = .ok (.i2c, 1)) : ab_OK K mt G pc (ab_i2c (pc + 1)) := by
  intro p l e R s m args below meth c D cA A X ρ0 N0 k0 n0 ls st h r hop
  obtain ⟨hx, hb, hr, hml, hts, hown, hlk, hst, hnm, htb, hK, hA, hfr, hlo⟩ := X
  unfold ab_i2c at hop
  split at hop
  · skip
    cases hop
    exact ab_stk (by intro hl hs; simp_all [ab_ok]) (fun Q ρ H locs cells slots real hG hL k => lv_i2c hx hb hd rfl k)
  · cases hop
def ab_i2f (nx : Nat) : ab_Op := fun ls st h => match st with
  | .int x :: rest => some (.inl (nx, ls, .float (FP.i2f x) :: rest, h))
  | _ => none
theorem ab_i2f_ok  (hd : decode G.2.1 pc = .ok (.i2f, 1)) : ab_OK K mt G pc (ab_i2f (pc + 1)) := by
  intro p l e R s m args below meth c D cA A X ρ0 N0 k0 n0 ls st h r hop
  obtain ⟨hx, hb, hr, hml, hts, hown, hlk, hst, hnm, htb, hK, hA, hfr, hlo⟩ := X
  unfold ab_i2f at hop
  split at hop
  · skip
    cases hop
    exact ab_stk (by intro hl hs; simp_all [ab_ok]) (fun Q ρ H locs cells slots real hG hL k => lv_i2f hx hb hd k)
  · cases hop
def ab_i2d (nx : Nat) : ab_Op := fun ls st h => match st with
  | .int x :: rest => some (.inl (nx, ls, .double (FP.i2d x) :: rest, h))
  | _ => none
theorem ab_i2d_ok  (hd : decode G.2.1 pc = .ok (.i2d, 1)) : ab_OK K mt G pc (ab_i2d (pc + 1)) := by
  intro p l e R s m args below meth c D cA A X ρ0 N0 k0 n0 ls st h r hop
  obtain ⟨hx, hb, hr, hml, hts, hown, hlk, hst, hnm, htb, hK, hA, hfr, hlo⟩ := X
  unfold ab_i2d at hop
  split at hop
  · skip
    cases hop
    exact ab_stk (by intro hl hs; simp_all [ab_ok]) (fun Q ρ H locs cells slots real hG hL k => lv_i2d hx hb hd k)
  · cases hop
def ab_f2d (nx : Nat) : ab_Op := fun ls st h => match st with
  | .float x :: rest => if FP.f2d x &&& 0x7fffffffffffffff ≤ 0x7ff0000000000000 then some (.inl (nx, ls, .double (FP.f2d x) :: rest, h)) else none
  | _ => none
theorem ab_f2d_ok  (hd : decode G.2.1 pc = .ok (.f2d, 1)) : ab_OK K mt G pc (ab_f2d (pc + 1)) := by
  intro p l e R s m args below meth c D cA A X ρ0 N0 k0 n0 ls st h r hop
  obtain ⟨hx, hb, hr, hml, hts, hown, hlk, hst, hnm, htb, hK, hA, hfr, hlo⟩ := X
  unfold ab_f2d at hop
  split at hop
  · skip
    split at hop
    · rename_i hguard
      cases hop
      exact ab_stk (by intro hl hs; simp_all [ab_ok]) (fun Q ρ H locs cells slots real hG hL k => lv_f2d hx hb hd hguard k)
    · cases hop
  · cases hop
def ab_fdiv (nx : Nat) : ab_Op := fun ls st h => match st with
  | .float y :: .float x :: rest => if FP.fdiv x y &&& 0x7fffffff ≤ 0x7f800000 then some (.inl (nx, ls, .float (FP.fdiv x y) :: rest, h)) else none
  | _ => none
theorem ab_fdiv_ok  (hd : decode G.2.1 pc = .ok (.fdiv, 1)) : ab_OK K mt G pc (ab_fdiv (pc + 1)) := by
  intro p l e R s m args below meth c D cA A X ρ0 N0 k0 n0 ls st h r hop
  obtain ⟨hx, hb, hr, hml, hts, hown, hlk, hst, hnm, htb, hK, hA, hfr, hlo⟩ := X
  unfold ab_fdiv at hop
  split at hop
  · skip
    split at hop
    · rename_i hguard
      cases hop
      exact ab_stk (by intro hl hs; simp_all [ab_ok]) (fun Q ρ H locs cells slots real hG hL k => lv_fdiv hx hb hd hguard k)
    · cases hop
  · cases hop
def ab_ddiv (nx : Nat) : ab_Op := fun ls st h => match st with
  | .double y :: .double x :: rest => if FP.ddiv x y &&& 0x7fffffffffffffff ≤ 0x7ff0000000000000 then some (.inl (nx, ls, .double (FP.ddiv x y) :: rest, h)) else none
  | _ => none
theorem ab_ddiv_ok  (hd : decode G.2.1 pc = .ok (.ddiv, 1)) : ab_OK K mt G pc (ab_ddiv (pc + 1)) := by
  intro p l e R s m args below meth c D cA A X ρ0 N0 k0 n0 ls st h r hop
  obtain ⟨hx, hb, hr, hml, hts, hown, hlk, hst, hnm, htb, hK, hA, hfr, hlo⟩ := X
  unfold ab_ddiv at hop
  split at hop
  · skip
    split at hop
    · rename_i hguard
      cases hop
      exact ab_stk (by intro hl hs; simp_all [ab_ok]) (fun Q ρ H locs cells slots real hG hL k => lv_ddiv hx hb hd hguard k)
    · cases hop
  · cases hop
def ab_dcmp (op : CmpOp) (nx : Nat) : ab_Op := fun ls st h => match st with
  | .double y :: .double x :: rest => some (.inl (nx, ls, .int (Op.cmpValue (FP.dcmp x y) op) :: rest, h))
  | _ => none
theorem ab_dcmp_ok {op : CmpOp} (hd : decode G.2.1 pc = .ok (.dcmp op, 1)) : ab_OK K mt G pc (ab_dcmp op (pc + 1)) := by
  intro p l e R s m args below meth c D cA A X ρ0 N0 k0 n0 ls st h r hop
  obtain ⟨hx, hb, hr, hml, hts, hown, hlk, hst, hnm, htb, hK, hA, hfr, hlo⟩ := X
  unfold ab_dcmp at hop
  split at hop
  · skip
    cases hop
    exact ab_stk (by intro hl hs; simp_all [ab_ok]) (fun Q ρ H locs cells slots real hG hL k => lv_dcmp hx hb hd k)
  · cases hop
def ab_fcmp (op : CmpOp) (nx : Nat) : ab_Op := fun ls st h => match st with
  | .float y :: .float x :: rest => some (.inl (nx, ls, .int (Op.cmpValue (FP.fcmp x y) op) :: rest, h))
  | _ => none
theorem ab_fcmp_ok {op : CmpOp} (hd : decode G.2.1 pc = .ok (.fcmp op, 1)) : ab_OK K mt G pc (ab_fcmp op (pc + 1)) := by
  intro p l e R s m args below meth c D cA A X ρ0 N0 k0 n0 ls st h r hop
  obtain ⟨hx, hb, hr, hml, hts, hown, hlk, hst, hnm, htb, hK, hA, hfr, hlo⟩ := X
  unfold ab_fcmp at hop
  split at hop
  · skip
    cases hop
    exact ab_stk (by intro hl hs; simp_all [ab_ok]) (fun Q ρ H locs cells slots real hG hL k => lv_fcmp hx hb hd k)
  · cases hop
def ab_iconst (v : Int32) (nx : Nat) : ab_Op := fun ls st h => some (.inl (nx, ls, .int v :: st, h))
theorem ab_iconst_ok {v : Int32} {n : Int} (hd : decode G.2.1 pc = .ok (.iconst n, 1)) (hv : Int32.ofInt n = v) : ab_OK K mt G pc (ab_iconst v (pc + 1)) := by
  intro p l e R s m args below meth c D cA A X ρ0 N0 k0 n0 ls st h r hop
  obtain ⟨hx, hb, hr, hml, hts, hown, hlk, hst, hnm, htb, hK, hA, hfr, hlo⟩ := X
  unfold ab_iconst at hop
  cases hop
  exact ab_stk (by intro hl hs; simp_all [ab_ok]) (fun Q ρ H locs cells slots real hG hL k => lv_iconst hx hb hd hv k)
theorem ab_bipush_ok {v : Int32} {n : Int} (hd : decode G.2.1 pc = .ok (.bipush n, 2)) (hv : (Int8.ofInt n).toInt32 = v) : ab_OK K mt G pc (ab_iconst v (pc + 2)) := by
  intro p l e R s m args below meth c D cA A X ρ0 N0 k0 n0 ls st h r hop
  obtain ⟨hx, hb, hr, hml, hts, hown, hlk, hst, hnm, htb, hK, hA, hfr, hlo⟩ := X
  unfold ab_iconst at hop
  cases hop
  exact ab_stk (by intro hl hs; simp_all [ab_ok]) (fun Q ρ H locs cells slots real hG hL k => lv_bipush hx hb hd hv k)
theorem ab_sipush_ok {v : Int32} {n : Int} (hd : decode G.2.1 pc = .ok (.sipush n, 3)) (hv : (Int16.ofInt n).toInt32 = v) : ab_OK K mt G pc (ab_iconst v (pc + 3)) := by
  intro p l e R s m args below meth c D cA A X ρ0 N0 k0 n0 ls st h r hop
  obtain ⟨hx, hb, hr, hml, hts, hown, hlk, hst, hnm, htb, hK, hA, hfr, hlo⟩ := X
  unfold ab_iconst at hop
  cases hop
  exact ab_stk (by intro hl hs; simp_all [ab_ok]) (fun Q ρ H locs cells slots real hG hL k => lv_sipush hx hb hd hv k)
theorem ab_ldci_ok {v : Int32} {index : Nat} (hd : decode G.2.1 pc = .ok (.ldc index, 2)) (hw : Cond.constant G.1.cls index v ∈ ab_wG) : ab_OK K mt G pc (ab_iconst v (pc + 2)) := by
  intro p l e R s m args below meth c D cA A X ρ0 N0 k0 n0 ls st h r hop
  obtain ⟨hx, hb, hr, hml, hts, hown, hlk, hst, hnm, htb, hK, hA, hfr, hlo⟩ := X
  unfold ab_iconst at hop
  cases hop
  exact ab_stk (by intro hl hs; simp_all [ab_ok]) (fun Q ρ H locs cells slots real hG hL k => lv_ldc hx hb hown (hts _ hw) hd k)
def ab_lconst (v : Int64) (nx : Nat) : ab_Op := fun ls st h => some (.inl (nx, ls, .long v :: st, h))
theorem ab_lconst_ok {v : Int64} {n : Fin 2} (hd : decode G.2.1 pc = .ok (.lconst n, 1)) (hv : Int64.ofNat (n : Nat) = v) : ab_OK K mt G pc (ab_lconst v (pc + 1)) := by
  intro p l e R s m args below meth c D cA A X ρ0 N0 k0 n0 ls st h r hop
  obtain ⟨hx, hb, hr, hml, hts, hown, hlk, hst, hnm, htb, hK, hA, hfr, hlo⟩ := X
  unfold ab_lconst at hop
  cases hop
  exact ab_stk (by intro hl hs; simp_all [ab_ok]) (fun Q ρ H locs cells slots real hG hL k => lv_lconst hx hb hd hv k)
def ab_fconst0 (nx : Nat) : ab_Op := fun ls st h => some (.inl (nx, ls, .float 0 :: st, h))
theorem ab_fconst0_ok  (hd : decode G.2.1 pc = .ok (.fconst 0, 1)) : ab_OK K mt G pc (ab_fconst0 (pc + 1)) := by
  intro p l e R s m args below meth c D cA A X ρ0 N0 k0 n0 ls st h r hop
  obtain ⟨hx, hb, hr, hml, hts, hown, hlk, hst, hnm, htb, hK, hA, hfr, hlo⟩ := X
  unfold ab_fconst0 at hop
  cases hop
  exact ab_stk (by intro hl hs; simp_all [ab_ok]) (fun Q ρ H locs cells slots real hG hL k => lv_fconst0 hx hb hd k)
def ab_dconst0 (nx : Nat) : ab_Op := fun ls st h => some (.inl (nx, ls, .double 0 :: st, h))
theorem ab_dconst0_ok  (hd : decode G.2.1 pc = .ok (.dconst 0, 1)) : ab_OK K mt G pc (ab_dconst0 (pc + 1)) := by
  intro p l e R s m args below meth c D cA A X ρ0 N0 k0 n0 ls st h r hop
  obtain ⟨hx, hb, hr, hml, hts, hown, hlk, hst, hnm, htb, hK, hA, hfr, hlo⟩ := X
  unfold ab_dconst0 at hop
  cases hop
  exact ab_stk (by intro hl hs; simp_all [ab_ok]) (fun Q ρ H locs cells slots real hG hL k => lv_dconst0 hx hb hd k)
def ab_pop (nx : Nat) : ab_Op := fun ls st h => match st with
  | v :: rest => if v.category = 1 then some (.inl (nx, ls, rest, h)) else none
  | _ => none
theorem ab_pop_ok  (hd : decode G.2.1 pc = .ok (.pop, 1)) : ab_OK K mt G pc (ab_pop (pc + 1)) := by
  intro p l e R s m args below meth c D cA A X ρ0 N0 k0 n0 ls st h r hop
  obtain ⟨hx, hb, hr, hml, hts, hown, hlk, hst, hnm, htb, hK, hA, hfr, hlo⟩ := X
  unfold ab_pop at hop
  split at hop
  · skip
    split at hop
    · rename_i hguard
      cases hop
      exact ab_stk (by intro hl hs; simp_all [ab_ok]) (fun Q ρ H locs cells slots real hG hL k => lv_pop hx hb hd (by rw [ab_vcat]; exact hguard) k)
    · cases hop
  · cases hop
def ab_dup (nx : Nat) : ab_Op := fun ls st h => match st with
  | v :: rest => if v.category = 1 then some (.inl (nx, ls, v :: v :: rest, h)) else none
  | _ => none
theorem ab_dup_ok  (hd : decode G.2.1 pc = .ok (.dup, 1)) : ab_OK K mt G pc (ab_dup (pc + 1)) := by
  intro p l e R s m args below meth c D cA A X ρ0 N0 k0 n0 ls st h r hop
  obtain ⟨hx, hb, hr, hml, hts, hown, hlk, hst, hnm, htb, hK, hA, hfr, hlo⟩ := X
  unfold ab_dup at hop
  split at hop
  · skip
    split at hop
    · rename_i hguard
      cases hop
      exact ab_stk (by intro hl hs; simp_all [ab_ok]) (fun Q ρ H locs cells slots real hG hL k => lv_dup hx hb hd (by rw [ab_vcat]; exact hguard) k)
    · cases hop
  · cases hop
def ab_dup2 (nx : Nat) : ab_Op := fun ls st h => match st with
  | v :: u :: rest => if v.category = 1 ∧ u.category = 1 then some (.inl (nx, ls, v :: u :: v :: u :: rest, h)) else none
  | _ => none
theorem ab_dup2_ok  (hd : decode G.2.1 pc = .ok (.dup2, 1)) : ab_OK K mt G pc (ab_dup2 (pc + 1)) := by
  intro p l e R s m args below meth c D cA A X ρ0 N0 k0 n0 ls st h r hop
  obtain ⟨hx, hb, hr, hml, hts, hown, hlk, hst, hnm, htb, hK, hA, hfr, hlo⟩ := X
  unfold ab_dup2 at hop
  split at hop
  · skip
    split at hop
    · rename_i hguard
      cases hop
      exact ab_stk (by intro hl hs; simp_all [ab_ok]) (fun Q ρ H locs cells slots real hG hL k => lv_dup2_11 hx hb hd (by rw [ab_vcat]; exact hguard.1) (by rw [ab_vcat]; exact hguard.2) k)
    · cases hop
  · cases hop
def ab_dup_x1 (nx : Nat) : ab_Op := fun ls st h => match st with
  | v :: u :: rest => if v.category = 1 ∧ u.category = 1 then some (.inl (nx, ls, v :: u :: v :: rest, h)) else none
  | _ => none
theorem ab_dup_x1_ok  (hd : decode G.2.1 pc = .ok (.dup_x1, 1)) : ab_OK K mt G pc (ab_dup_x1 (pc + 1)) := by
  intro p l e R s m args below meth c D cA A X ρ0 N0 k0 n0 ls st h r hop
  obtain ⟨hx, hb, hr, hml, hts, hown, hlk, hst, hnm, htb, hK, hA, hfr, hlo⟩ := X
  unfold ab_dup_x1 at hop
  split at hop
  · skip
    split at hop
    · rename_i hguard
      cases hop
      exact ab_stk (by intro hl hs; simp_all [ab_ok]) (fun Q ρ H locs cells slots real hG hL k => lv_dup_x1 hx hb hd (by rw [ab_vcat]; exact hguard.1) (by rw [ab_vcat]; exact hguard.2) k)
    · cases hop
  · cases hop
def ab_iload (i nx : Nat) : ab_Op := fun ls st h => match ls[i]? with
  | some (some (.int x)) => some (.inl (nx, ls, .int x :: st, h))
  | _ => none
theorem ab_iload_ok {i : Nat} (hd : decode G.2.1 pc = .ok (.iload i, 2)) : ab_OK K mt G pc (ab_iload i (pc + 2)) := by
  intro p l e R s m args below meth c D cA A X ρ0 N0 k0 n0 ls st h r hop
  obtain ⟨hx, hb, hr, hml, hts, hown, hlk, hst, hnm, htb, hK, hA, hfr, hlo⟩ := X
  unfold ab_iload at hop
  split at hop
  · rename_i x hi
    cases hop
    refine ab_stk (fun hl hs v hv => ?_) (fun Q ρ H locs cells slots real hG hL k => lv_iload hx hb hd (hL.2.2.2 i _ hi) k)
    rcases List.mem_cons.mp hv with rfl | hv
    · exact hl _ (List.mem_of_getElem? hi)
    · exact hs v hv
  · cases hop
theorem ab_iload_n_ok {i : Nat} {j : Fin 4} (hd : decode G.2.1 pc = .ok (.iload_n j, 1)) (hj : (j : Nat) = i) : ab_OK K mt G pc (ab_iload i (pc + 1)) := by
  intro p l e R s m args below meth c D cA A X ρ0 N0 k0 n0 ls st h r hop
  obtain ⟨hx, hb, hr, hml, hts, hown, hlk, hst, hnm, htb, hK, hA, hfr, hlo⟩ := X
  unfold ab_iload at hop
  split at hop
  · rename_i x hi
    cases hop
    refine ab_stk (fun hl hs v hv => ?_) (fun Q ρ H locs cells slots real hG hL k => lv_iload_n hx hb hd hj (hL.2.2.2 i _ hi) k)
    rcases List.mem_cons.mp hv with rfl | hv
    · exact hl _ (List.mem_of_getElem? hi)
    · exact hs v hv
  · cases hop
def ab_aload (i nx : Nat) : ab_Op := fun ls st h => match ls[i]? with
  | some (some (.ref x)) => some (.inl (nx, ls, .ref x :: st, h))
  | _ => none
theorem ab_aload_ok {i : Nat} (hd : decode G.2.1 pc = .ok (.aload i, 2)) : ab_OK K mt G pc (ab_aload i (pc + 2)) := by
  intro p l e R s m args below meth c D cA A X ρ0 N0 k0 n0 ls st h r hop
  obtain ⟨hx, hb, hr, hml, hts, hown, hlk, hst, hnm, htb, hK, hA, hfr, hlo⟩ := X
  unfold ab_aload at hop
  split at hop
  · rename_i x hi
    cases hop
    refine ab_stk (fun hl hs v hv => ?_) (fun Q ρ H locs cells slots real hG hL k => lv_aload hx hb hd (hL.2.2.2 i _ hi) k)
    rcases List.mem_cons.mp hv with rfl | hv
    · exact hl _ (List.mem_of_getElem? hi)
    · exact hs v hv
  · cases hop
theorem ab_aload_n_ok {i : Nat} {j : Fin 4} (hd : decode G.2.1 pc = .ok (.aload_n j, 1)) (hj : (j : Nat) = i) : ab_OK K mt G pc (ab_aload i (pc + 1)) := by
  intro p l e R s m args below meth c D cA A X ρ0 N0 k0 n0 ls st h r hop
  obtain ⟨hx, hb, hr, hml, hts, hown, hlk, hst, hnm, htb, hK, hA, hfr, hlo⟩ := X
  unfold ab_aload at hop
  split at hop
  · rename_i x hi
    cases hop
    refine ab_stk (fun hl hs v hv => ?_) (fun Q ρ H locs cells slots real hG hL k => lv_aload_n hx hb hd hj (hL.2.2.2 i _ hi) k)
    rcases List.mem_cons.mp hv with rfl | hv
    · exact hl _ (List.mem_of_getElem? hi)
    · exact hs v hv
  · cases hop
def ab_fload (i nx : Nat) : ab_Op := fun ls st h => match ls[i]? with
  | some (some (.float x)) => some (.inl (nx, ls, .float x :: st, h))
  | _ => none
theorem ab_fload_ok {i : Nat} (hd : decode G.2.1 pc = .ok (.fload i, 2)) : ab_OK K mt G pc (ab_fload i (pc + 2)) := by
  intro p l e R s m args below meth c D cA A X ρ0 N0 k0 n0 ls st h r hop
  obtain ⟨hx, hb, hr, hml, hts, hown, hlk, hst, hnm, htb, hK, hA, hfr, hlo⟩ := X
  unfold ab_fload at hop
  split at hop
  · rename_i x hi
    cases hop
    refine ab_stk (fun hl hs v hv => ?_) (fun Q ρ H locs cells slots real hG hL k => lv_fload hx hb hd (hL.2.2.2 i _ hi) k)
    rcases List.mem_cons.mp hv with rfl | hv
    · exact hl _ (List.mem_of_getElem? hi)
    · exact hs v hv
  · cases hop
theorem ab_fload_n_ok {i : Nat} {j : Fin 4} (hd : decode G.2.1 pc = .ok (.fload_n j, 1)) (hj : (j : Nat) = i) : ab_OK K mt G pc (ab_fload i (pc + 1)) := by
  intro p l e R s m args below meth c D cA A X ρ0 N0 k0 n0 ls st h r hop
  obtain ⟨hx, hb, hr, hml, hts, hown, hlk, hst, hnm, htb, hK, hA, hfr, hlo⟩ := X
  unfold ab_fload at hop
  split at hop
  · rename_i x hi
    cases hop
    refine ab_stk (fun hl hs v hv => ?_) (fun Q ρ H locs cells slots real hG hL k => lv_fload_n hx hb hd hj (hL.2.2.2 i _ hi) k)
    rcases List.mem_cons.mp hv with rfl | hv
    · exact hl _ (List.mem_of_getElem? hi)
    · exact hs v hv
  · cases hop
def ab_dload (i nx : Nat) : ab_Op := fun ls st h => match ls[i]? with
  | some (some (.double x)) => some (.inl (nx, ls, .double x :: st, h))
  | _ => none
theorem ab_dload_ok {i : Nat} (hd : decode G.2.1 pc = .ok (.dload i, 2)) : ab_OK K mt G pc (ab_dload i (pc + 2)) := by
  intro p l e R s m args below meth c D cA A X ρ0 N0 k0 n0 ls st h r hop
  obtain ⟨hx, hb, hr, hml, hts, hown, hlk, hst, hnm, htb, hK, hA, hfr, hlo⟩ := X
  unfold ab_dload at hop
  split at hop
  · rename_i x hi
    cases hop
    refine ab_stk (fun hl hs v hv => ?_) (fun Q ρ H locs cells slots real hG hL k => lv_dload hx hb hd (hL.2.2.2 i _ hi) k)
    rcases List.mem_cons.mp hv with rfl | hv
    · exact hl _ (List.mem_of_getElem? hi)
    · exact hs v hv
  · cases hop
theorem ab_dload_n_ok {i : Nat} {j : Fin 4} (hd : decode G.2.1 pc = .ok (.dload_n j, 1)) (hj : (j : Nat) = i) : ab_OK K mt G pc (ab_dload i (pc + 1)) := by
  intro p l e R s m args below meth c D cA A X ρ0 N0 k0 n0 ls st h r hop
  obtain ⟨hx, hb, hr, hml, hts, hown, hlk, hst, hnm, htb, hK, hA, hfr, hlo⟩ := X
  unfold ab_dload at hop
  split at hop
  · rename_i x hi
    cases hop
    refine ab_stk (fun hl hs v hv => ?_) (fun Q ρ H locs cells slots real hG hL k => lv_dload_n hx hb hd hj (hL.2.2.2 i _ hi) k)
    rcases List.mem_cons.mp hv with rfl | hv
    · exact hl _ (List.mem_of_getElem? hi)
    · exact hs v hv
  · cases hop
def ab_istore (i nx : Nat) : ab_Op := fun ls st h => match st with
  | .int x :: rest => if i < ls.length ∧ ab_g ls i = true then some (.inl (nx, ls.set i (some (.int x)), rest, h)) else none
  | _ => none
theorem ab_istore_ok {i : Nat} (hd : decode G.2.1 pc = .ok (.istore i, 2)) : ab_OK K mt G pc (ab_istore i (pc + 2)) := by
  intro p l e R s m args below meth c D cA A X ρ0 N0 k0 n0 ls st h r hop
  obtain ⟨hx, hb, hr, hml, hts, hown, hlk, hst, hnm, htb, hK, hA, hfr, hlo⟩ := X
  unfold ab_istore at hop
  split at hop
  · split at hop
    · rename_i x rest hguard
      cases hop
      refine ab_sto (fun hl hs => ⟨fun v hv => hs v (List.mem_cons_of_mem _ hv), ab_oks hl (hs _ List.mem_cons_self)⟩) (fun Q ρ H locs cells slots real hL k => ?_)
      exact lv_istore hx hb hd (ab_Lhas hL) (by rw [← hL.2.2.1]; exact hguard.1) rfl (fun real' h' => k real' (ab_Lst (v := .int x) hL hguard.2 h'))
    · cases hop
  · cases hop
theorem ab_istore_n_ok {i : Nat} {j : Fin 4} (hd : decode G.2.1 pc = .ok (.istore_n j, 1)) (hj : (j : Nat) = i) : ab_OK K mt G pc (ab_istore i (pc + 1)) := by
  intro p l e R s m args below meth c D cA A X ρ0 N0 k0 n0 ls st h r hop
  obtain ⟨hx, hb, hr, hml, hts, hown, hlk, hst, hnm, htb, hK, hA, hfr, hlo⟩ := X
  unfold ab_istore at hop
  split at hop
  · split at hop
    · rename_i x rest hguard
      cases hop
      refine ab_sto (fun hl hs => ⟨fun v hv => hs v (List.mem_cons_of_mem _ hv), ab_oks hl (hs _ List.mem_cons_self)⟩) (fun Q ρ H locs cells slots real hL k => ?_)
      exact lv_istore_n hx hb hd hj (ab_Lhas hL) (by rw [← hL.2.2.1]; exact hguard.1) rfl (fun real' h' => k real' (ab_Lst (v := .int x) hL hguard.2 h'))
    · cases hop
  · cases hop
def ab_astore (i nx : Nat) : ab_Op := fun ls st h => match st with
  | .ref x :: rest => if i < ls.length ∧ ab_g ls i = true then some (.inl (nx, ls.set i (some (.ref x)), rest, h)) else none
  | _ => none
theorem ab_astore_ok {i : Nat} (hd : decode G.2.1 pc = .ok (.astore i, 2)) : ab_OK K mt G pc (ab_astore i (pc + 2)) := by
  intro p l e R s m args below meth c D cA A X ρ0 N0 k0 n0 ls st h r hop
  obtain ⟨hx, hb, hr, hml, hts, hown, hlk, hst, hnm, htb, hK, hA, hfr, hlo⟩ := X
  unfold ab_astore at hop
  split at hop
  · split at hop
    · rename_i x rest hguard
      cases hop
      refine ab_sto (fun hl hs => ⟨fun v hv => hs v (List.mem_cons_of_mem _ hv), ab_oks hl (hs _ List.mem_cons_self)⟩) (fun Q ρ H locs cells slots real hL k => ?_)
      exact lv_astore hx hb hd (ab_Lhas hL) (by rw [← hL.2.2.1]; exact hguard.1) rfl (fun real' h' => k real' (ab_Lst (v := .ref x) hL hguard.2 h'))
    · cases hop
  · cases hop
theorem ab_astore_n_ok {i : Nat} {j : Fin 4} (hd : decode G.2.1 pc = .ok (.astore_n j, 1)) (hj : (j : Nat) = i) : ab_OK K mt G pc (ab_astore i (pc + 1)) := by
  intro p l e R s m args below meth c D cA A X ρ0 N0 k0 n0 ls st h r hop
  obtain ⟨hx, hb, hr, hml, hts, hown, hlk, hst, hnm, htb, hK, hA, hfr, hlo⟩ := X
  unfold ab_astore at hop
  split at hop
  · split at hop
    · rename_i x rest hguard
      cases hop
      refine ab_sto (fun hl hs => ⟨fun v hv => hs v (List.mem_cons_of_mem _ hv), ab_oks hl (hs _ List.mem_cons_self)⟩) (fun Q ρ H locs cells slots real hL k => ?_)
      exact lv_astore_n hx hb hd hj (ab_Lhas hL) (by rw [← hL.2.2.1]; exact hguard.1) rfl (fun real' h' => k real' (ab_Lst (v := .ref x) hL hguard.2 h'))
    · cases hop
  · cases hop
def ab_fstore (i nx : Nat) : ab_Op := fun ls st h => match st with
  | .float x :: rest => if i < ls.length ∧ ab_g ls i = true then some (.inl (nx, ls.set i (some (.float x)), rest, h)) else none
  | _ => none
theorem ab_fstore_ok {i : Nat} (hd : decode G.2.1 pc = .ok (.fstore i, 2)) : ab_OK K mt G pc (ab_fstore i (pc + 2)) := by
  intro p l e R s m args below meth c D cA A X ρ0 N0 k0 n0 ls st h r hop
  obtain ⟨hx, hb, hr, hml, hts, hown, hlk, hst, hnm, htb, hK, hA, hfr, hlo⟩ := X
  unfold ab_fstore at hop
  split at hop
  · split at hop
    · rename_i x rest hguard
      cases hop
      refine ab_sto (fun hl hs => ⟨fun v hv => hs v (List.mem_cons_of_mem _ hv), ab_oks hl (hs _ List.mem_cons_self)⟩) (fun Q ρ H locs cells slots real hL k => ?_)
      exact lv_fstore hx hb hd (ab_Lhas hL) (by rw [← hL.2.2.1]; exact hguard.1) rfl (fun real' h' => k real' (ab_Lst (v := .float x) hL hguard.2 h'))
    · cases hop
  · cases hop
def ab_dstore (i nx : Nat) : ab_Op := fun ls st h => match st with
  | .double x :: rest => if i + 1 < ls.length ∧ ab_g ls i = true then some (.inl (nx, (ls.set i (some (.double x))).set (i + 1) none, rest, h)) else none
  | _ => none
theorem ab_dstore_ok {i : Nat} (hd : decode G.2.1 pc = .ok (.dstore i, 2)) : ab_OK K mt G pc (ab_dstore i (pc + 2)) := by
  intro p l e R s m args below meth c D cA A X ρ0 N0 k0 n0 ls st h r hop
  obtain ⟨hx, hb, hr, hml, hts, hown, hlk, hst, hnm, htb, hK, hA, hfr, hlo⟩ := X
  unfold ab_dstore at hop
  split at hop
  · split at hop
    · rename_i x rest hguard
      cases hop
      refine ab_sto (fun hl hs => ⟨fun v hv => hs v (List.mem_cons_of_mem _ hv), ab_oks0 (ab_oks hl (hs _ List.mem_cons_self))⟩) (fun Q ρ H locs cells slots real hL k => ?_)
      exact lv_dstore hx hb hd (ab_Lhas hL) (by rw [← hL.2.2.1]; exact hguard.1) rfl (fun real' h' => k real' (ab_Lst2 (v := .double x) hL hguard.2 h'))
    · cases hop
  · cases hop
def ab_iinc (i : Nat) (n : Int32) (nx : Nat) : ab_Op := fun ls st h => match ls[i]? with
  | some (some (.int x)) => if ab_g ls i = true then some (.inl (nx, ls.set i (some (.int (x + n))), st, h)) else none
  | _ => none
theorem ab_iinc_ok {i : Nat} {n : Int} {n' : Int32} (hd : decode G.2.1 pc = .ok (.iinc i n, 3)) (hn : Int32.ofInt n = n') : ab_OK K mt G pc (ab_iinc i n' (pc + 3)) := by
  intro p l e R s m args below meth c D cA A X ρ0 N0 k0 n0 ls st h r hop
  obtain ⟨hx, hb, hr, hml, hts, hown, hlk, hst, hnm, htb, hK, hA, hfr, hlo⟩ := X
  unfold ab_iinc at hop
  split at hop
  · rename_i x hi
    split at hop
    · rename_i hguard
      cases hop
      subst hn
      refine ab_sto (fun hl hs => ⟨hs, ab_oks hl trivial⟩) (fun Q ρ H locs cells slots real hL k => ?_)
      have hil : i < ls.length := (List.getElem?_eq_some_iff.mp hi).1
      obtain ⟨k9, hk9⟩ : ∃ k9 : Nat, (ab_lv ls ρ)[k9]? = some (i, .int x) := by
        refine List.getElem?_of_mem (List.mem_filterMap.mpr ⟨i, List.mem_range.mpr hil, ?_⟩)
        simp [hi, ab_v]
      exact lv_iinc hx hb hd (ab_Lhas hL) hk9 rfl (by rw [← hL.2.2.1]; exact hil) rfl (fun real' h' => k real' (ab_Lst (v := .int (x + Int32.ofInt n)) hL hguard h'))
    · cases hop
  · cases hop
def ab_if_eq (t nx : Nat) : ab_Op := fun ls st h => match st with
  | .int x :: rest => some (.inl (if x = 0 then t else nx, ls, rest, h))
  | _ => none
theorem ab_if_eq_ok {off : Int} {t : Nat} (hd : decode G.2.1 pc = .ok (.ifCond .eq off, 3)) (ht : (pc : Int) + off = (t : Int)) : ab_OK K mt G pc (ab_if_eq t (pc + 3)) := by
  intro p l e R s m args below meth c D cA A X ρ0 N0 k0 n0 ls st h r hop
  obtain ⟨hx, hb, hr, hml, hts, hown, hlk, hst, hnm, htb, hK, hA, hfr, hlo⟩ := X
  unfold ab_if_eq at hop
  split at hop
  · cases hop
    refine ab_stk (by intro hl hs; simp_all [ab_ok]) (fun Q ρ H locs cells slots real hG hL k => ?_)
    refine lv_if_eq hx hb hd ht (fun hc => ?_) (fun hc => ?_)
    · rw [if_pos hc] at k; exact k
    · rw [if_neg hc] at k; exact k
  · cases hop
def ab_if_ne (t nx : Nat) : ab_Op := fun ls st h => match st with
  | .int x :: rest => some (.inl (if x = 0 then nx else t, ls, rest, h))
  | _ => none
theorem ab_if_ne_ok {off : Int} {t : Nat} (hd : decode G.2.1 pc = .ok (.ifCond .ne off, 3)) (ht : (pc : Int) + off = (t : Int)) : ab_OK K mt G pc (ab_if_ne t (pc + 3)) := by
  intro p l e R s m args below meth c D cA A X ρ0 N0 k0 n0 ls st h r hop
  obtain ⟨hx, hb, hr, hml, hts, hown, hlk, hst, hnm, htb, hK, hA, hfr, hlo⟩ := X
  unfold ab_if_ne at hop
  split at hop
  · cases hop
    refine ab_stk (by intro hl hs; simp_all [ab_ok]) (fun Q ρ H locs cells slots real hG hL k => ?_)
    refine lv_if_ne hx hb hd ht (fun hc => ?_) (fun hc => ?_)
    · rw [if_neg hc] at k; exact k
    · rw [if_pos hc] at k; exact k
  · cases hop
def ab_if_lt (t nx : Nat) : ab_Op := fun ls st h => match st with
  | .int x :: rest => some (.inl (if x < 0 then t else nx, ls, rest, h))
  | _ => none
theorem ab_if_lt_ok {off : Int} {t : Nat} (hd : decode G.2.1 pc = .ok (.ifCond .lt off, 3)) (ht : (pc : Int) + off = (t : Int)) : ab_OK K mt G pc (ab_if_lt t (pc + 3)) := by
  intro p l e R s m args below meth c D cA A X ρ0 N0 k0 n0 ls st h r hop
  obtain ⟨hx, hb, hr, hml, hts, hown, hlk, hst, hnm, htb, hK, hA, hfr, hlo⟩ := X
  unfold ab_if_lt at hop
  split at hop
  · cases hop
    refine ab_stk (by intro hl hs; simp_all [ab_ok]) (fun Q ρ H locs cells slots real hG hL k => ?_)
    refine lv_if_lt hx hb hd ht (fun hc => ?_) (fun hc => ?_)
    · rw [if_pos hc] at k; exact k
    · rw [if_neg hc] at k; exact k
  · cases hop
def ab_if_ge (t nx : Nat) : ab_Op := fun ls st h => match st with
  | .int x :: rest => some (.inl (if 0 ≤ x then t else nx, ls, rest, h))
  | _ => none
theorem ab_if_ge_ok {off : Int} {t : Nat} (hd : decode G.2.1 pc = .ok (.ifCond .ge off, 3)) (ht : (pc : Int) + off = (t : Int)) : ab_OK K mt G pc (ab_if_ge t (pc + 3)) := by
  intro p l e R s m args below meth c D cA A X ρ0 N0 k0 n0 ls st h r hop
  obtain ⟨hx, hb, hr, hml, hts, hown, hlk, hst, hnm, htb, hK, hA, hfr, hlo⟩ := X
  unfold ab_if_ge at hop
  split at hop
  · cases hop
    refine ab_stk (by intro hl hs; simp_all [ab_ok]) (fun Q ρ H locs cells slots real hG hL k => ?_)
    refine lv_if_ge hx hb hd ht (fun hc => ?_) (fun hc => ?_)
    · rw [if_pos hc] at k; exact k
    · rw [if_neg hc] at k; exact k
  · cases hop
def ab_if_gt (t nx : Nat) : ab_Op := fun ls st h => match st with
  | .int x :: rest => some (.inl (if 0 < x then t else nx, ls, rest, h))
  | _ => none
theorem ab_if_gt_ok {off : Int} {t : Nat} (hd : decode G.2.1 pc = .ok (.ifCond .gt off, 3)) (ht : (pc : Int) + off = (t : Int)) : ab_OK K mt G pc (ab_if_gt t (pc + 3)) := by
  intro p l e R s m args below meth c D cA A X ρ0 N0 k0 n0 ls st h r hop
  obtain ⟨hx, hb, hr, hml, hts, hown, hlk, hst, hnm, htb, hK, hA, hfr, hlo⟩ := X
  unfold ab_if_gt at hop
  split at hop
  · cases hop
    refine ab_stk (by intro hl hs; simp_all [ab_ok]) (fun Q ρ H locs cells slots real hG hL k => ?_)
    refine lv_if_gt hx hb hd ht (fun hc => ?_) (fun hc => ?_)
    · rw [if_pos hc] at k; exact k
    · rw [if_neg hc] at k; exact k
  · cases hop
def ab_if_le (t nx : Nat) : ab_Op := fun ls st h => match st with
  | .int x :: rest => some (.inl (if x ≤ 0 then t else nx, ls, rest, h))
  | _ => none
theorem ab_if_le_ok {off : Int} {t : Nat} (hd : decode G.2.1 pc = .ok (.ifCond .le off, 3)) (ht : (pc : Int) + off = (t : Int)) : ab_OK K mt G pc (ab_if_le t (pc + 3)) := by
  intro p l e R s m args below meth c D cA A X ρ0 N0 k0 n0 ls st h r hop
  obtain ⟨hx, hb, hr, hml, hts, hown, hlk, hst, hnm, htb, hK, hA, hfr, hlo⟩ := X
  unfold ab_if_le at hop
  split at hop
  · cases hop
    refine ab_stk (by intro hl hs; simp_all [ab_ok]) (fun Q ρ H locs cells slots real hG hL k => ?_)
    refine lv_if_le hx hb hd ht (fun hc => ?_) (fun hc => ?_)
    · rw [if_pos hc] at k; exact k
    · rw [if_neg hc] at k; exact k
  · cases hop
def ab_icmp_eq (t nx : Nat) : ab_Op := fun ls st h => match st with
  | .int y :: .int x :: rest => some (.inl (if x = y then t else nx, ls, rest, h))
  | _ => none
theorem ab_icmp_eq_ok {off : Int} {t : Nat} (hd : decode G.2.1 pc = .ok (.if_icmp .eq off, 3)) (ht : (pc : Int) + off = (t : Int)) : ab_OK K mt G pc (ab_icmp_eq t (pc + 3)) := by
  intro p l e R s m args below meth c D cA A X ρ0 N0 k0 n0 ls st h r hop
  obtain ⟨hx, hb, hr, hml, hts, hown, hlk, hst, hnm, htb, hK, hA, hfr, hlo⟩ := X
  unfold ab_icmp_eq at hop
  split at hop
  · cases hop
    refine ab_stk (by intro hl hs; simp_all [ab_ok]) (fun Q ρ H locs cells slots real hG hL k => ?_)
    refine lv_icmp_eq hx hb hd ht (fun hc => ?_) (fun hc => ?_)
    · rw [if_pos hc] at k; exact k
    · rw [if_neg hc] at k; exact k
  · cases hop
def ab_icmp_ne (t nx : Nat) : ab_Op := fun ls st h => match st with
  | .int y :: .int x :: rest => some (.inl (if x = y then nx else t, ls, rest, h))
  | _ => none
theorem ab_icmp_ne_ok {off : Int} {t : Nat} (hd : decode G.2.1 pc = .ok (.if_icmp .ne off, 3)) (ht : (pc : Int) + off = (t : Int)) : ab_OK K mt G pc (ab_icmp_ne t (pc + 3)) := by
  intro p l e R s m args below meth c D cA A X ρ0 N0 k0 n0 ls st h r hop
  obtain ⟨hx, hb, hr, hml, hts, hown, hlk, hst, hnm, htb, hK, hA, hfr, hlo⟩ := X
  unfold ab_icmp_ne at hop
  split at hop
  · cases hop
    refine ab_stk (by intro hl hs; simp_all [ab_ok]) (fun Q ρ H locs cells slots real hG hL k => ?_)
    refine lv_icmp_ne hx hb hd ht (fun hc => ?_) (fun hc => ?_)
    · rw [if_neg hc] at k; exact k
    · rw [if_pos hc] at k; exact k
  · cases hop
def ab_icmp_lt (t nx : Nat) : ab_Op := fun ls st h => match st with
  | .int y :: .int x :: rest => some (.inl (if x < y then t else nx, ls, rest, h))
  | _ => none
theorem ab_icmp_lt_ok {off : Int} {t : Nat} (hd : decode G.2.1 pc = .ok (.if_icmp .lt off, 3)) (ht : (pc : Int) + off = (t : Int)) : ab_OK K mt G pc (ab_icmp_lt t (pc + 3)) := by
  intro p l e R s m args below meth c D cA A X ρ0 N0 k0 n0 ls st h r hop
  obtain ⟨hx, hb, hr, hml, hts, hown, hlk, hst, hnm, htb, hK, hA, hfr, hlo⟩ := X
  unfold ab_icmp_lt at hop
  split at hop
  · cases hop
    refine ab_stk (by intro hl hs; simp_all [ab_ok]) (fun Q ρ H locs cells slots real hG hL k => ?_)
    refine lv_icmp_lt hx hb hd ht (fun hc => ?_) (fun hc => ?_)
    · rw [if_pos hc] at k; exact k
    · rw [if_neg hc] at k; exact k
  · cases hop
def ab_icmp_ge (t nx : Nat) : ab_Op := fun ls st h => match st with
  | .int y :: .int x :: rest => some (.inl (if y ≤ x then t else nx, ls, rest, h))
  | _ => none
theorem ab_icmp_ge_ok {off : Int} {t : Nat} (hd : decode G.2.1 pc = .ok (.if_icmp .ge off, 3)) (ht : (pc : Int) + off = (t : Int)) : ab_OK K mt G pc (ab_icmp_ge t (pc + 3)) := by
  intro p l e R s m args below meth c D cA A X ρ0 N0 k0 n0 ls st h r hop
  obtain ⟨hx, hb, hr, hml, hts, hown, hlk, hst, hnm, htb, hK, hA, hfr, hlo⟩ := X
  unfold ab_icmp_ge at hop
  split at hop
  · cases hop
    refine ab_stk (by intro hl hs; simp_all [ab_ok]) (fun Q ρ H locs cells slots real hG hL k => ?_)
    refine lv_icmp_ge hx hb hd ht (fun hc => ?_) (fun hc => ?_)
    · rw [if_pos hc] at k; exact k
    · rw [if_neg hc] at k; exact k
  · cases hop
def ab_icmp_gt (t nx : Nat) : ab_Op := fun ls st h => match st with
  | .int y :: .int x :: rest => some (.inl (if y < x then t else nx, ls, rest, h))
  | _ => none
theorem ab_icmp_gt_ok {off : Int} {t : Nat} (hd : decode G.2.1 pc = .ok (.if_icmp .gt off, 3)) (ht : (pc : Int) + off = (t : Int)) : ab_OK K mt G pc (ab_icmp_gt t (pc + 3)) := by
  intro p l e R s m args below meth c D cA A X ρ0 N0 k0 n0 ls st h r hop
  obtain ⟨hx, hb, hr, hml, hts, hown, hlk, hst, hnm, htb, hK, hA, hfr, hlo⟩ := X
  unfold ab_icmp_gt at hop
  split at hop
  · cases hop
    refine ab_stk (by intro hl hs; simp_all [ab_ok]) (fun Q ρ H locs cells slots real hG hL k => ?_)
    refine lv_icmp_gt hx hb hd ht (fun hc => ?_) (fun hc => ?_)
    · rw [if_pos hc] at k; exact k
    · rw [if_neg hc] at k; exact k
  · cases hop
def ab_icmp_le (t nx : Nat) : ab_Op := fun ls st h => match st with
  | .int y :: .int x :: rest => some (.inl (if x ≤ y then t else nx, ls, rest, h))
  | _ => none
theorem ab_icmp_le_ok {off : Int} {t : Nat} (hd : decode G.2.1 pc = .ok (.if_icmp .le off, 3)) (ht : (pc : Int) + off = (t : Int)) : ab_OK K mt G pc (ab_icmp_le t (pc + 3)) := by
  intro p l e R s m args below meth c D cA A X ρ0 N0 k0 n0 ls st h r hop
  obtain ⟨hx, hb, hr, hml, hts, hown, hlk, hst, hnm, htb, hK, hA, hfr, hlo⟩ := X
  unfold ab_icmp_le at hop
  split at hop
  · cases hop
    refine ab_stk (by intro hl hs; simp_all [ab_ok]) (fun Q ρ H locs cells slots real hG hL k => ?_)
    refine lv_icmp_le hx hb hd ht (fun hc => ?_) (fun hc => ?_)
    · rw [if_pos hc] at k; exact k
    · rw [if_neg hc] at k; exact k
  · cases hop
def ab_goto (t : Nat) : ab_Op := fun ls st h => some (.inl (t, ls, st, h))
theorem ab_goto_ok {off : Int} {t : Nat} (hd : decode G.2.1 pc = .ok (.goto off, 3)) (ht : (pc : Int) + off = (t : Int)) : ab_OK K mt G pc (ab_goto t) := by
  intro p l e R s m args below meth c D cA A X ρ0 N0 k0 n0 ls st h r hop
  obtain ⟨hx, hb, hr, hml, hts, hown, hlk, hst, hnm, htb, hK, hA, hfr, hlo⟩ := X
  unfold ab_goto at hop
  cases hop
  exact ab_stk (fun _ hs => hs) (fun Q ρ H locs cells slots real hG hL k => lv_goto hx hb hd ht k)
def ab_tsw (lo : Int) (ts : List Nat) (d : Nat) : ab_Op := fun ls st h => match st with
  | .int x :: rest => some (.inl (if x.toInt < lo then d else ts.getD (x.toInt - lo).toNat d, ls, rest, h))
  | _ => none
theorem ab_tsw_ok {dflt lo hi : Int} {offs : Array Int} {len d : Nat} {ts : List Nat} (hd : decode G.2.1 pc = .ok (.tableswitch dflt lo hi offs, len)) (hn : hi + 1 - lo = (ts.length : Int)) (ho : offs.toList = ts.map (fun t : Nat => (t : Int) - (pc : Int))) (ht : (pc : Int) + dflt = (d : Int)) : ab_OK K mt G pc (ab_tsw lo ts d) := by
  intro p l e R s m args below meth c D cA A X ρ0 N0 k0 n0 ls st h r hop
  obtain ⟨hx, hb, hr, hml, hts, hown, hlk, hst, hnm, htb, hK, hA, hfr, hlo⟩ := X
  unfold ab_tsw at hop
  split at hop
  · rename_i x rest
    cases hop
    refine ab_stk (by intro hl hs; simp_all [ab_ok]) (fun Q ρ H locs cells slots real hG hL k => ?_)
    by_cases h1 : x.toInt < lo
    · rw [if_pos h1] at k
      exact lv_tableOut hx hb hd (Or.inl h1) ht k
    · rw [if_neg h1] at k
      by_cases h2 : hi < x.toInt
      · rw [List.getD_eq_getElem?_getD, List.getElem?_eq_none (by omega)] at k
        exact lv_tableOut hx hb hd (Or.inr h2) ht k
      · have h3 : (x.toInt - lo).toNat < ts.length := by omega
        have h4 : offs[(x.toInt - lo).toNat]? = some ((ts[(x.toInt - lo).toNat] : Int) - (pc : Int)) := by
          rw [← Array.getElem?_toList, ho, List.getElem?_map, List.getElem?_eq_getElem h3]
          rfl
        rw [List.getD_eq_getElem?_getD, List.getElem?_eq_getElem h3] at k
        exact lv_tableIn hx hb hd h1 h2 h4 (show (pc : Int) + ((ts[(x.toInt - lo).toNat] : Int) - (pc : Int)) = (ts[(x.toInt - lo).toNat] : Int) by omega) k
  · cases hop
end
