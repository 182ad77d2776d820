/-! ===== the world of the law: rows of ints ===== -/
/-- an int of the program -/
def ab_I (z : Int) : Int32 := Int32.ofInt z
theorem ab_I_add (a b : Int) : ab_I a + ab_I b = ab_I (a + b) := (Int32.ofInt_add a b).symm
theorem ab_I_sub (a b : Int) : ab_I a - ab_I b = ab_I (a - b) := (Int32.ofInt_sub a b).symm
theorem ab_I_mul (a b : Int) : ab_I a * ab_I b = ab_I (a * b) := (Int32.ofInt_mul a b).symm
theorem ab_I_neg (a : Int) : -ab_I a = ab_I (-a) := (Int32.ofInt_neg a).symm
/-- in the range of ints -/
def ab_rg (z : Int) : Prop := -2147483648 ≤ z ∧ z < 2147483648
theorem ab_I_toInt {z : Int} (h : ab_rg z) : (ab_I z).toInt = z := Int32.toInt_ofInt_of_le h.1 h.2
theorem ab_I_of (x : Int32) : ab_I x.toInt = x := Int32.ofInt_toInt x
theorem ab_rg_of (x : Int32) : ab_rg x.toInt := ⟨Int32.le_toInt x, Int32.toInt_lt x⟩
theorem ab_I_lt {a b : Int} (ha : ab_rg a) (hb : ab_rg b) : (ab_I a < ab_I b) ↔ a < b := by rw [Int32.lt_iff_toInt_lt, ab_I_toInt ha, ab_I_toInt hb]
theorem ab_I_le {a b : Int} (ha : ab_rg a) (hb : ab_rg b) : (ab_I a ≤ ab_I b) ↔ a ≤ b := by rw [Int32.le_iff_toInt_le, ab_I_toInt ha, ab_I_toInt hb]
theorem ab_I_eq {a b : Int} (ha : ab_rg a) (hb : ab_rg b) : (ab_I a = ab_I b) ↔ a = b := by
  constructor
  · intro h
    have h2 := congrArg Int32.toInt h
    rwa [ab_I_toInt ha, ab_I_toInt hb] at h2
  · intro h; rw [h]
theorem ab_I0 : (0 : Int32) = ab_I 0 := rfl
theorem ab_rg0 : ab_rg 0 := ⟨by decide, by decide⟩
theorem ab_I_clamp {a : Int} (h0 : 0 ≤ a) (h1 : a < 2147483648) : (ab_I a).toNatClampNeg = a.toNat := by
  show (ab_I a).toInt.toNat = a.toNat
  rw [ab_I_toInt ⟨by omega, h1⟩]
/-- sv, its length, the doubles, other cells, how many ids beyond 510, cells, slots -/
abbrev ab_Z : Type := Nat × Nat × (Nat → UInt64) × (Nat → Option ab_C) × Nat × Nat × Nat
/-- the ids of books, presses, history's shops -/
def ab_bI (s : Nat) (e : Int) : Nat := s + 3 + 6 * e.toNat
def ab_pI (s : Nat) (e : Int) : Nat := s + 39 + 2 * e.toNat
def ab_sI (e : Int) : Nat := 64 + 43 * e.toNat
/-- the cells of a book, of a press, of a shop -/
def ab_mb (d : Int → Int) (l : Int → Int64) (b : Nat) : Nat → ab_C
  | 0 => .inr (5, [.int (ab_I (d 0)), .int (ab_I (d 1)), .int (ab_I (d 2)), .int (ab_I (d 3)), .int (ab_I (d 4)), .int (ab_I (d 5)), .int (ab_I (d 6)), .int (ab_I (d 7)), .ref (b + 1), .ref (b + 2), .ref (b + 3), .ref (b + 4), .ref (b + 5)])
  | 1 => .inl (0, 12, .inl (fun j => ab_I (d j)))
  | 2 => .inl (0, 12, .inl (fun j => ab_I (d j)))
  | 3 => .inl (0, 12, .inl (fun j => ab_I (d j)))
  | 4 => .inl (1, 12, .inl (fun j => ab_I (d j)))
  | _ => .inl (2, 3, .inr (.inl (fun j => l j)))
def ab_mp (d : Int → Int) (p : Nat) : Nat → ab_C
  | 0 => .inr (8, [.ref (p + 1), .int (ab_I (d 1))])
  | _ => .inl (0, 3, .inl (fun j => ab_I (d j)))
def ab_ms (d : Int → Int) (l : Int → Int64) (s : Nat) : Nat → ab_C
  | 0 => .inr (9, [.ref (s + 1), .ref (s + 2), .int (ab_I (d 2)), .int (ab_I (d 3)), .int (ab_I (d 4)), .int (ab_I (d 5)), .int (ab_I (d 6)), .int (ab_I (d 7)), .int (ab_I (d 8)), .int (ab_I (d 9))])
  | 1 => .inl (6, 6, .inr (.inr (.inr (.inr (fun e => if e < 6 then some (s + 3 + 6 * e) else none)))))
  | 2 => .inl (7, 2, .inr (.inr (.inr (.inr (fun e => if e < 2 then some (s + 39 + 2 * e) else none)))))
  | j + 3 => if j < 36 then ab_mb d l (s + 3 + j - j % 6) (j % 6) else ab_mp d (s + 3 + j - j % 2) (j % 2)
/-- the cells from 494 on -/
def ab_mo (d : Int → Int) (l : Int → Int64) (z : ab_Z) (i : Nat) : Nat → Option ab_C
  | 0 => some (.inr (6, [.ref 495, .int (ab_I (d 1)), .int (ab_I (d 2)), .int (ab_I (d 3)), .int (ab_I (d 4)), .ref 496, .int (ab_I (d 6)), .int (ab_I (d 7))]))
  | 1 => some (.inl (3, 60, .inl (fun j => ab_I (d j))))
  | 2 => some (.inl (0, 3, .inl (fun j => ab_I (d j))))
  | 3 => some (.inr (1, [.ref z.1, .int (ab_I (d 1)), .int (ab_I (d 2)), .int (ab_I (d 3))]))
  | 5 => some (.inl (0, 6, .inl (fun j => ab_I (d j))))
  | 6 => some (.inr (11, [.ref 501, .ref 502, .ref 503, .ref 504, .int (ab_I (d 4)), .int (ab_I (d 5)), .int (ab_I (d 6)), .int (ab_I (d 7)), .int (ab_I (d 8)), .int (ab_I (d 9)), .int (ab_I (d 10)), .ref 505, .int (ab_I (d 12)), .int (ab_I (d 13)), .ref 506, .int (ab_I (d 15)), .int (ab_I (d 16)), .ref 507, .int (ab_I (d 18))]))
  | 7 => some (.inl (0, 322, .inl (fun j => ab_I (d j))))
  | 8 => some (.inl (0, 2576, .inl (fun j => ab_I (d j))))
  | 9 => some (.inl (0, 322, .inl (fun j => ab_I (d j))))
  | 10 => some (.inl (0, 322, .inl (fun j => ab_I (d j))))
  | 11 => some (.inl (0, 60, .inl (fun j => ab_I (d j))))
  | 12 => some (.inl (3, 140, .inl (fun j => ab_I (d j))))
  | 13 => some (.inl (0, 160, .inl (fun j => ab_I (d j))))
  | 14 => some (.inl (2, 1, .inr (.inl (fun j => l j))))
  | 15 => some (.inl (5, 1, .inr (.inr (.inr (.inl z.2.2.1)))))
  | _ => if i = z.1 then some (.inl (4, z.2.1, .inl (fun j => ab_I (d j)))) else z.2.2.2.1 i
def ab_mr (d : Int → Int) (l : Int → Int64) (z : ab_Z) (i : Nat) : Option ab_C :=
  if i < 17 then none
  else if i = 17 then some (.inr (10, [.ref 18, .ref 19, .ref 62, .ref 451, .int (ab_I (d 4)), .ref 494, .int (ab_I (d 6)), .ref 497, .ref 499]))
  else if i = 18 then some (.inr (4, [.ref 19, .int (ab_I (d 1)), .int (ab_I (d 2)), .int (ab_I (d 3)), .int (ab_I (d 4))]))
  else if i < 62 then some (ab_ms d l 19 (i - 19))
  else if i = 62 then some (.inr (7, [.ref 63, .int (ab_I (d 1)), .int (ab_I (d 2))]))
  else if i = 63 then some (.inl (8, 9, .inr (.inr (.inr (.inr (fun e => if e < 9 then some (64 + 43 * e) else none))))))
  else if i < 494 then some (ab_ms d l (i - (i - 64) % 43) ((i - 64) % 43))
  else ab_mo d l z i (i - 494)
def ab_mk (D : Nat → Int → Int) (L : Nat → Int → Int64) (z : ab_Z) : ab_H := (fun i => ab_mr (D i) (L i) z i, 510 + z.2.2.2.2.1, z.2.2.2.2.2.1, z.2.2.2.2.2.2)
/-- thrown; caught -/
def ab_zx (z : ab_Z) : ab_Z := (z.1, z.2.1, z.2.2.1, z.2.2.2.1, z.2.2.2.2.1, z.2.2.2.2.2.1 + 1, z.2.2.2.2.2.2 + 6)
def ab_zc (z : ab_Z) : ab_Z := (z.1, z.2.1, z.2.2.1, z.2.2.2.1, z.2.2.2.2.1 + 1, z.2.2.2.2.2.1, z.2.2.2.2.2.2)
/-- one slot anew -/
def ab_u {α : Type} (D : Nat → Int → α) (i : Nat) (k : Int) (v : α) : Nat → Int → α := fun a b => if a = i then (if b = k then v else D a b) else D a b
theorem ab_u_eq {α : Type} {D : Nat → Int → α} {i : Nat} {k : Int} {v : α} : ab_u D i k v i k = v := by simp [ab_u]
theorem ab_u_ne {α : Type} {D : Nat → Int → α} {i a : Nat} {k b : Int} {v : α} (h : a ≠ i ∨ b ≠ k) : ab_u D i k v a b = D a b := by
  unfold ab_u
  split
  · split
    · rcases h with h | h <;> contradiction
    · rfl
  · rfl
theorem ab_u_row {α : Type} {D : Nat → Int → α} {i a : Nat} {k : Int} {v : α} (h : a ≠ i) : ab_u D i k v a = D a := by
  funext b
  exact ab_u_ne (.inl h)
theorem ab_u_if {α : Type} {D : Nat → Int → α} {i : Nat} {k b : Int} {v : α} : ab_u D i k v i b = if b = k then v else D i b := by simp [ab_u]
/-- what shops, books and presses are -/
def ab_sp (s : Nat) : Prop := s = 19 ∨ ∃ k, k < 10 ∧ s = 64 + 43 * k
def ab_bk (b : Nat) : Prop := ∃ s e, ab_sp s ∧ e < 6 ∧ b = s + 3 + 6 * e
def ab_ps (p : Nat) : Prop := ∃ s e, ab_sp s ∧ e < 2 ∧ p = s + 39 + 2 * e
theorem ab_sp0 : ab_sp 19 := .inl rfl
theorem ab_sp10 : ab_sp 451 := .inr ⟨9, by decide, rfl⟩
theorem ab_sp_sI {e : Int} (h0 : 0 ≤ e) (h1 : e < 9) : ab_sp (ab_sI e) := .inr ⟨e.toNat, by omega, rfl⟩
theorem ab_bk_bI {s : Nat} {e : Int} (h : ab_sp s) (h0 : 0 ≤ e) (h1 : e < 6) : ab_bk (ab_bI s e) := ⟨s, e.toNat, h, by omega, rfl⟩
theorem ab_ps_pI {s : Nat} {e : Int} (h : ab_sp s) (h0 : 0 ≤ e) (h1 : e < 2) : ab_ps (ab_pI s e) := ⟨s, e.toNat, h, by omega, rfl⟩
theorem ab_mr_sp {s : Nat} (h : ab_sp s) {j : Nat} (hj : j < 43) (d : Int → Int) (l : Int → Int64) (z : ab_Z) : ab_mr d l z (s + j) = some (ab_ms d l s j) := by
  unfold ab_mr
  rcases h with rfl | ⟨k, hk, rfl⟩
  · rw [if_neg (by omega), if_neg (by omega), if_neg (by omega), if_pos (by omega)]
    congr 2
    omega
  · have e1 : (64 + 43 * k + j - 64) % 43 = j := by omega
    rw [if_neg (by omega), if_neg (by omega), if_neg (by omega), if_neg (by omega), if_neg (by omega), if_neg (by omega), if_pos (by omega), e1]
    congr 2
    omega
theorem ab_mr_bk {b : Nat} (h : ab_bk b) {t : Nat} (ht : t < 6) (d : Int → Int) (l : Int → Int64) (z : ab_Z) : ab_mr d l z (b + t) = some (ab_mb d l b t) := by
  obtain ⟨s, e, hs, he, rfl⟩ := h
  have e0 : s + 3 + 6 * e + t = s + (6 * e + t + 3) := by omega
  rw [e0, ab_mr_sp hs (by omega)]
  have e1 : (6 * e + t) % 6 = t := by omega
  have e2 : s + 3 + (6 * e + t) - t = s + 3 + 6 * e := by omega
  show some (if 6 * e + t < 36 then ab_mb d l (s + 3 + (6 * e + t) - (6 * e + t) % 6) ((6 * e + t) % 6) else ab_mp d (s + 3 + (6 * e + t) - (6 * e + t) % 2) ((6 * e + t) % 2)) = _
  rw [if_pos (by omega), e1, e2]
theorem ab_mr_ps {p : Nat} (h : ab_ps p) {t : Nat} (ht : t < 2) (d : Int → Int) (l : Int → Int64) (z : ab_Z) : ab_mr d l z (p + t) = some (ab_mp d p t) := by
  obtain ⟨s, e, hs, he, rfl⟩ := h
  have e0 : s + 39 + 2 * e + t = s + (36 + 2 * e + t + 3) := by omega
  rw [e0, ab_mr_sp hs (by omega)]
  have e1 : (36 + 2 * e + t) % 2 = t := by omega
  have e2 : s + 3 + (36 + 2 * e + t) - t = s + 39 + 2 * e := by omega
  show some (if 36 + 2 * e + t < 36 then ab_mb d l (s + 3 + (36 + 2 * e + t) - (36 + 2 * e + t) % 6) ((36 + 2 * e + t) % 6) else ab_mp d (s + 3 + (36 + 2 * e + t) - (36 + 2 * e + t) % 2) ((36 + 2 * e + t) % 2)) = _
  rw [if_neg (by omega), e1, e2]
/-- a row alone is written -/
theorem ab_setD {D : Nat → Int → Int} {L : Nat → Int → Int64} {z : ab_Z} {b : Nat} {k v : Int} {c : ab_C} (h : ab_mr (fun j => if j = k then v else D b j) (L b) z b = some c) : ab_set (ab_mk D L z) b c = ab_mk (ab_u D b k v) L z := by
  unfold ab_set ab_mk
  congr 1
  funext j
  by_cases hj : j = b
  · subst hj
    rw [if_pos rfl, ← h]
    congr 1
    funext x
    rw [ab_u_if]
  · rw [if_neg hj, ab_u_row hj]
theorem ab_setL {D : Nat → Int → Int} {L : Nat → Int → Int64} {z : ab_Z} {b : Nat} {k : Int} {v : Int64} {c : ab_C} (h : ab_mr (D b) (fun j => if j = k then v else L b j) z b = some c) : ab_set (ab_mk D L z) b c = ab_mk D (ab_u L b k v) z := by
  unfold ab_set ab_mk
  congr 1
  funext j
  by_cases hj : j = b
  · subst hj
    rw [if_pos rfl, ← h]
    congr 1
    funext x
    rw [ab_u_if]
  · rw [if_neg hj, ab_u_row hj]
/-! ===== steps ===== -/
section
variable {K : ab_Kt} {M pc nx t : Nat} {ls : ab_Ls} {st st' : List Value} {h h' : ab_H} {op : ab_Op}
theorem ab_goI {pc' : Nat} {ls' : ab_Ls} {st' : List Value} (hq : ab_P9 K M pc = op) (ho : op ls st h = some (.inl (pc', ls', st', h'))) : ab_ev K M pc ls st h = ab_ev K M pc' ls' st' h' := by rw [ab_ev_eq, hq, ho]; rfl
theorem ab_goE {r : ab_O × ab_H} (hq : ab_P9 K M pc = op) (ho : op ls st h = some (.inr (.inl r))) : ab_ev K M pc ls st h = some r := by rw [ab_ev_eq, hq, ho]; rfl
theorem ab_goC {M' : Nat} {as rest : List Value} {pc' : Nat} (hq : ab_P9 K M pc = op) (ho : op ls st h = some (.inr (.inr (M', as, rest, pc')))) : ab_ev K M pc ls st h = ab_re K M pc ls rest pc' h (ab_cal K M' as h) := by rw [ab_ev_eq, hq, ho]; rfl
/-- two ways -/
noncomputable def ab_br (K : ab_Kt) (M t nx : Nat) (ls : ab_Ls) (st : List Value) (h : ab_H) (c : Prop) [Decidable c] : Option (ab_O × ab_H) := if c then ab_ev K M t ls st h else ab_ev K M nx ls st h
theorem ab_br_t {c : Prop} [Decidable c] (hc : c) : ab_br K M t nx ls st h c = ab_ev K M t ls st h := if_pos hc
theorem ab_br_f {c : Prop} [Decidable c] (hc : ¬ c) : ab_br K M t nx ls st h c = ab_ev K M nx ls st h := if_neg hc
theorem ab_brI {c c' : Prop} [Decidable c] [Decidable c'] (hq : ab_P9 K M pc = op) (ho : op ls st h = some (.inl (if c then t else nx, ls, st', h'))) (hcc : c ↔ c') : ab_ev K M pc ls st h = ab_br K M t nx ls st' h' c' := by
  rw [ab_goI hq ho]
  unfold ab_br
  by_cases x : c
  · rw [if_pos x, if_pos (hcc.mp x)]
  · rw [if_neg x, if_neg (fun y => x (hcc.mpr y))]
theorem ab_cal_eq {as : List Value} {ls0 : ab_Ls} (h1 : ab_a1 (ab_mx M) as = true) (h2 : ab_ent (ab_mx M) as = ls0) : ab_cal K M as h = ab_ev K M 0 ls0 [] h := by rw [ab_cal, if_pos h1, h2]
theorem ab_re_v {v : Value} {rest : List Value} {D D' : Nat → Int → Int} {L L' : Nat → Int → Int64} {z z' : ab_Z} (hz : z.2.2.2.2.2.1 ≤ z'.2.2.2.2.2.1 ∧ z.2.2.2.2.2.2 ≤ z'.2.2.2.2.2.2) : ab_re K M pc ls rest nx (ab_mk D L z) (some (.inl (some v), ab_mk D' L' z')) = ab_ev K M nx ls (v :: rest) (ab_mk D' L' z') := by
  show (if _ then _ else _) = _
  rw [if_pos ((ab_le_iff (h := ab_mk D L z) (h1 := ab_mk D' L' z')).mpr hz)]
  rfl
theorem ab_re_n {rest : List Value} {D D' : Nat → Int → Int} {L L' : Nat → Int → Int64} {z z' : ab_Z} (hz : z.2.2.2.2.2.1 ≤ z'.2.2.2.2.2.1 ∧ z.2.2.2.2.2.2 ≤ z'.2.2.2.2.2.2) : ab_re K M pc ls rest nx (ab_mk D L z) (some (.inl none, ab_mk D' L' z')) = ab_ev K M nx ls rest (ab_mk D' L' z') := by
  show (if _ then _ else _) = _
  rw [if_pos ((ab_le_iff (h := ab_mk D L z) (h1 := ab_mk D' L' z')).mpr hz)]
  rfl
theorem ab_re_t {E : String} {rest : List Value} {D D' : Nat → Int → Int} {L L' : Nat → Int → Int64} {z z' : ab_Z} (hn : ab_hn M pc E = some none) (hz : z.2.2.2.2.2.1 ≤ z'.2.2.2.2.2.1 ∧ z.2.2.2.2.2.2 ≤ z'.2.2.2.2.2.2) : ab_re K M pc ls rest nx (ab_mk D L z) (some (.inr E, ab_mk D' L' z')) = some (.inr E, ab_mk D' L' z') := by
  show (if _ then _ else _) = _
  rw [if_pos ((ab_le_iff (h := ab_mk D L z) (h1 := ab_mk D' L' z')).mpr hz), hn]
theorem ab_mr_z {d : Int → Int} {l : Int → Int64} {z z' : ab_Z} {i : Nat} (h1 : z'.1 = z.1) (h2 : z'.2.1 = z.2.1) (h3 : z'.2.2.1 = z.2.2.1) (h4 : z'.2.2.2.1 = z.2.2.2.1) : ab_mr d l z' i = ab_mr d l z i := by
  unfold ab_mr
  have e : ∀ k, ab_mo d l z' i k = ab_mo d l z i k := by
    intro k
    unfold ab_mo
    rw [h1, h2, h3, h4]
  rw [e]
theorem ab_ctmk {D : Nat → Int → Int} {L : Nat → Int → Int64} {z : ab_Z} : ab_ct (ab_mk D L z) = ab_mk D L (ab_zc z) := by
  have e1 : (fun i => ab_mr (D i) (L i) (ab_zc z) i) = fun i => ab_mr (D i) (L i) z i := funext fun i => ab_mr_z (z := z) (z' := ab_zc z) rfl rfl rfl rfl
  have e2 : (ab_zc z).2.2.2.2.1 = z.2.2.2.2.1 + 1 := rfl
  have e3 : (ab_zc z).2.2.2.2.2 = z.2.2.2.2.2 := rfl
  unfold ab_ct ab_mk
  rw [e1, e2, e3]
  dsimp only
  rw [Nat.add_assoc]
theorem ab_re_h {E : String} {ph : Nat} {rest : List Value} {D D' : Nat → Int → Int} {L L' : Nat → Int → Int64} {z z' : ab_Z} (hn : ab_hn M pc E = some (some ph)) (hz : z.2.2.2.2.2.1 ≤ z'.2.2.2.2.2.1 ∧ z.2.2.2.2.2.2 ≤ z'.2.2.2.2.2.2) : ab_re K M pc ls rest nx (ab_mk D L z) (some (.inr E, ab_mk D' L' z')) = ab_ev K M ph ls [.ref (510 + z'.2.2.2.2.1)] (ab_mk D' L' (ab_zc z')) := by
  show (if _ then _ else _) = _
  rw [if_pos ((ab_le_iff (h := ab_mk D L z) (h1 := ab_mk D' L' z')).mpr hz), hn]
  dsimp only
  rw [ab_ctmk]
  unfold ab_mk
  dsimp only
theorem ab_zz (z : ab_Z) : z.2.2.2.2.2.1 ≤ z.2.2.2.2.2.1 ∧ z.2.2.2.2.2.2 ≤ z.2.2.2.2.2.2 := ⟨Nat.le_refl _, Nat.le_refl _⟩
theorem ab_zzx (z : ab_Z) : z.2.2.2.2.2.1 ≤ (ab_zx z).2.2.2.2.2.1 ∧ z.2.2.2.2.2.2 ≤ (ab_zx z).2.2.2.2.2.2 := ⟨Nat.le_succ _, Nat.le_add_right _ 6⟩
/-! ===== each op ===== -/
theorem ab_oIload {i : Nat} {x : Int32} (hl : ls[i]? = some (some (.int x))) : ab_iload i nx ls st h = some (.inl (nx, ls, .int x :: st, h)) := by unfold ab_iload; rw [hl]
theorem ab_oAload {i : Nat} {x : Nat} (hl : ls[i]? = some (some (.ref x))) : ab_aload i nx ls st h = some (.inl (nx, ls, .ref x :: st, h)) := by unfold ab_aload; rw [hl]
theorem ab_oFload {i : Nat} {x : UInt32} (hl : ls[i]? = some (some (.float x))) : ab_fload i nx ls st h = some (.inl (nx, ls, .float x :: st, h)) := by unfold ab_fload; rw [hl]
theorem ab_oDload {i : Nat} {x : UInt64} (hl : ls[i]? = some (some (.double x))) : ab_dload i nx ls st h = some (.inl (nx, ls, .double x :: st, h)) := by unfold ab_dload; rw [hl]
theorem ab_oIstore {i : Nat} {x : Int32} (hl : i < ls.length) (hg : ab_g ls i = true) : ab_istore i nx ls (.int x :: st) h = some (.inl (nx, ls.set i (some (.int x)), st, h)) := if_pos ⟨hl, hg⟩
theorem ab_oAstore {i : Nat} {x : Nat} (hl : i < ls.length) (hg : ab_g ls i = true) : ab_astore i nx ls (.ref x :: st) h = some (.inl (nx, ls.set i (some (.ref x)), st, h)) := if_pos ⟨hl, hg⟩
theorem ab_oFstore {i : Nat} {x : UInt32} (hl : i < ls.length) (hg : ab_g ls i = true) : ab_fstore i nx ls (.float x :: st) h = some (.inl (nx, ls.set i (some (.float x)), st, h)) := if_pos ⟨hl, hg⟩
theorem ab_oDstore {i : Nat} {x : UInt64} (hl : i + 1 < ls.length) (hg : ab_g ls i = true) : ab_dstore i nx ls (.double x :: st) h = some (.inl (nx, (ls.set i (some (.double x))).set (i + 1) none, st, h)) := if_pos ⟨hl, hg⟩
theorem ab_oIinc {i : Nat} {a c : Int} {n : Int32} (hl : ls[i]? = some (some (.int (ab_I a)))) (hg : ab_g ls i = true) (hn : n = ab_I c) : ab_iinc i n nx ls st h = some (.inl (nx, ls.set i (some (.int (ab_I (a + c)))), st, h)) := by unfold ab_iinc; rw [hl]; dsimp only; rw [if_pos hg, hn, ab_I_add]
theorem ab_oConst {c : Int} {v : Int32} (hv : v = ab_I c) : ab_iconst v nx ls st h = some (.inl (nx, ls, .int (ab_I c) :: st, h)) := by rw [hv]; rfl
theorem ab_oAdd {a b : Int} : ab_iadd nx ls (.int (ab_I b) :: .int (ab_I a) :: st) h = some (.inl (nx, ls, .int (ab_I (a + b)) :: st, h)) := by unfold ab_iadd; dsimp only; rw [ab_I_add]
theorem ab_oSub {a b : Int} : ab_isub nx ls (.int (ab_I b) :: .int (ab_I a) :: st) h = some (.inl (nx, ls, .int (ab_I (a - b)) :: st, h)) := by unfold ab_isub; dsimp only; rw [ab_I_sub]
theorem ab_oMul {a b : Int} : ab_imul nx ls (.int (ab_I b) :: .int (ab_I a) :: st) h = some (.inl (nx, ls, .int (ab_I (a * b)) :: st, h)) := by unfold ab_imul; dsimp only; rw [ab_I_mul]
theorem ab_oNeg {a : Int} : ab_ineg nx ls (.int (ab_I a) :: st) h = some (.inl (nx, ls, .int (ab_I (-a)) :: st, h)) := by unfold ab_ineg; dsimp only; rw [ab_I_neg]
theorem ab_oGetf {ci k b : Nat} {fs : List Value} {v : Value} (hc : h.1 b = some (.inr (ci, fs))) (hv : fs[k]? = some v) : ab_getf ci k nx ls (.ref b :: st) h = some (.inl (nx, ls, v :: st, h)) := by
  unfold ab_getf
  dsimp only
  rw [hc]
  dsimp only
  rw [hv]
  dsimp only
  rw [if_pos rfl]
theorem ab_oPutf {ci k b : Nat} {ty : FieldType} {fs : List Value} {v : Value} (hc : h.1 b = some (.inr (ci, fs))) (hk : k < fs.length) (hf : ab_fit ty v = true) (hs : ab_set h b (.inr (ci, fs.set k v)) = h') : ab_putf ci k ty nx ls (v :: .ref b :: st) h = some (.inl (nx, ls, st, h')) := by
  unfold ab_putf
  dsimp only
  rw [hc]
  dsimp only
  rw [if_pos ⟨rfl, hk, hf⟩, hs]
theorem ab_cond {t n : Nat} {i : Int} (h0 : 0 ≤ i) (h1 : i < n) (hn : n ≤ 60000000) : t = t ∧ 0 ≤ ab_I i ∧ (ab_I i).toNatClampNeg < n := by
  refine ⟨rfl, (ab_I_le ab_rg0 ⟨by omega, by omega⟩).mpr h0, ?_⟩
  rw [ab_I_clamp h0 (by omega)]
  omega
theorem ab_oAld {t n b : Nat} {f : Nat → Int32} {i : Int} {x : Int32} (hc : h.1 b = some (.inl (t, n, .inl f))) (h0 : 0 ≤ i) (h1 : i < n) (hn : n ≤ 60000000) (hx : f i.toNat = x) : ab_ald t nx ls (.int (ab_I i) :: .ref b :: st) h = some (.inl (nx, ls, .int x :: st, h)) := by
  unfold ab_ald
  dsimp only
  rw [hc]
  dsimp only
  rw [if_pos (ab_cond h0 h1 hn), ab_I_clamp h0 (by omega), hx]
theorem ab_oLald {n b : Nat} {f : Nat → Int64} {i : Int} {x : Int64} (hc : h.1 b = some (.inl (2, n, .inr (.inl f)))) (h0 : 0 ≤ i) (h1 : i < n) (hn : n ≤ 60000000) (hx : f i.toNat = x) : ab_lald nx ls (.int (ab_I i) :: .ref b :: st) h = some (.inl (nx, ls, .long x :: st, h)) := by
  unfold ab_lald
  dsimp only
  rw [hc]
  dsimp only
  rw [if_pos (ab_cond h0 h1 hn), ab_I_clamp h0 (by omega), hx]
theorem ab_oAald {t n b v : Nat} {f : Nat → Option Nat} {i : Int} (hc : h.1 b = some (.inl (t, n, .inr (.inr (.inr (.inr f)))))) (h0 : 0 ≤ i) (h1 : i < n) (hn : n ≤ 60000000) (hx : f i.toNat = some v) : ab_aald t nx ls (.int (ab_I i) :: .ref b :: st) h = some (.inl (nx, ls, .ref v :: st, h)) := by
  unfold ab_aald
  dsimp only
  rw [hc]
  dsimp only
  rw [if_pos (ab_cond h0 h1 hn), ab_I_clamp h0 (by omega), hx]
  rfl
theorem ab_oAst {t n b : Nat} {ty : FieldType} {f : Nat → Int32} {i : Int} {x : Int32} (hc : h.1 b = some (.inl (t, n, .inl f))) (h0 : 0 ≤ i) (h1 : i < n) (hn : n ≤ 60000000) (hs : ab_set h b (.inl (t, n, .inl (upd f i.toNat (vp_nar ty x)))) = h') : ab_ast t ty nx ls (.int x :: .int (ab_I i) :: .ref b :: st) h = some (.inl (nx, ls, st, h')) := by
  unfold ab_ast
  dsimp only
  rw [hc]
  dsimp only
  rw [if_pos (ab_cond h0 h1 hn), ab_I_clamp h0 (by omega), hs]
theorem ab_oLast {n b : Nat} {f : Nat → Int64} {i : Int} {x : Int64} (hc : h.1 b = some (.inl (2, n, .inr (.inl f)))) (h0 : 0 ≤ i) (h1 : i < n) (hn : n ≤ 60000000) (hs : ab_set h b (.inl (2, n, .inr (.inl (vp_updL f i.toNat x)))) = h') : ab_last nx ls (.long x :: .int (ab_I i) :: .ref b :: st) h = some (.inl (nx, ls, st, h')) := by
  unfold ab_last
  dsimp only
  rw [hc]
  dsimp only
  rw [if_pos (ab_cond h0 h1 hn), ab_I_clamp h0 (by omega), hs]
theorem ab_oCallV {ci M' n b : Nat} {fs : List Value} {rest : List Value} {as : List Value} (hd : st.drop n = .ref b :: rest) (hc : h.1 b = some (.inr (ci, fs))) (hr : ab_cs rest = true) (ha : .ref b :: (st.take n).reverse = as) : ab_callV ci M' n nx ls st h = some (.inr (.inr (M', as, rest, nx))) := by
  unfold ab_callV
  rw [hd]
  dsimp only
  rw [hc]
  dsimp only
  rw [if_pos ⟨rfl, hr⟩, ha]
theorem ab_oCallS {M' n : Nat} {rest : List Value} {as : List Value} (hn : n ≤ st.length) (hd : st.drop n = rest) (hr : rest.length ≤ 4) (ha : (st.take n).reverse = as) : ab_callS M' n nx ls st h = some (.inr (.inr (M', as, rest, nx))) := by
  unfold ab_callS
  rw [if_pos ⟨hn, by rw [hd]; exact hr⟩, ha, hd]
theorem ab_oCallI {M' n b : Nat} {rest : List Value} {as : List Value} (hd : st.drop n = .ref b :: rest) (hr : rest.length ≤ 4) (ha : .ref b :: (st.take n).reverse = as) : ab_callI M' n nx ls st h = some (.inr (.inr (M', as, rest, nx))) := by
  unfold ab_callI
  rw [hd]
  dsimp only
  rw [if_pos hr, ha]
theorem ab_oMax {a b : Int} (ha : ab_rg a) (hb : ab_rg b) {rest : List Value} (hr : rest.length ≤ 4) : ab_mmax nx ls (.int (ab_I b) :: .int (ab_I a) :: rest) h = some (.inl (nx, ls, .int (ab_I (max a b)) :: rest, h)) := by
  unfold ab_mmax
  dsimp only
  rw [if_pos hr]
  have e : (if ab_I a < ab_I b then ab_I b else ab_I a) = ab_I (max a b) := by
    by_cases x : a < b
    · rw [if_pos ((ab_I_lt ha hb).mpr x), Int.max_eq_right (by omega)]
    · rw [if_neg (fun y => x ((ab_I_lt ha hb).mp y)), Int.max_eq_left (by omega)]
  rw [e]
theorem ab_oMin {a b : Int} (ha : ab_rg a) (hb : ab_rg b) {rest : List Value} (hr : rest.length ≤ 4) : ab_mmin nx ls (.int (ab_I b) :: .int (ab_I a) :: rest) h = some (.inl (nx, ls, .int (ab_I (min a b)) :: rest, h)) := by
  unfold ab_mmin
  dsimp only
  rw [if_pos hr]
  have e : (if ab_I b < ab_I a then ab_I b else ab_I a) = ab_I (min a b) := by
    by_cases x : b < a
    · rw [if_pos ((ab_I_lt hb ha).mpr x), Int.min_eq_right (by omega)]
    · rw [if_neg (fun y => x ((ab_I_lt hb ha).mp y)), Int.min_eq_left (by omega)]
  rw [e]
theorem ab_I_div {a b : Int} (ha : 0 ≤ a) (ha2 : a < 2147483648) (hb : 0 < b) (hb2 : b < 2147483648) : ab_I a / ab_I b = ab_I (a / b) := by
  have h1 : (ab_I a / ab_I b).toInt = a.tdiv b := by
    rw [Int32.toInt_div, ab_I_toInt ⟨by omega, ha2⟩, ab_I_toInt ⟨by omega, hb2⟩]
    have e : a.tdiv b = a / b := Int.tdiv_eq_ediv_of_nonneg ha
    have e1 : 0 ≤ a / b := Int.ediv_nonneg ha (by omega)
    have e2 : a / b ≤ a := Int.ediv_le_self _ ha
    rw [e]
    exact Int.bmod_eq_of_le (by omega) (by omega)
  have h2 := ab_I_of (ab_I a / ab_I b)
  rw [h1, Int.tdiv_eq_ediv_of_nonneg ha] at h2
  exact h2.symm
theorem ab_oDiv {a b : Int} (ha : 0 ≤ a) (ha2 : a < 2147483648) (hb : 0 < b) (hb2 : b < 2147483648) : ab_idiv nx ls (.int (ab_I b) :: .int (ab_I a) :: st) h = some (.inl (nx, ls, .int (ab_I (a / b)) :: st, h)) := by
  unfold ab_idiv
  dsimp only
  have hne : ¬ ab_I b = 0 := fun x => by have := (ab_I_eq ⟨by omega, hb2⟩ ab_rg0).mp x; omega
  rw [if_pos hne, ab_I_div ha ha2 hb hb2]
theorem ab_oRem {a b : Int} (ha : 0 ≤ a) (ha2 : a < 2147483648) (hb : 0 < b) (hb2 : b < 2147483648) : ab_irem nx ls (.int (ab_I b) :: .int (ab_I a) :: st) h = some (.inl (nx, ls, .int (ab_I (a % b)) :: st, h)) := by
  unfold ab_irem
  dsimp only
  have hne : ¬ ab_I b = 0 := fun x => by have := (ab_I_eq ⟨by omega, hb2⟩ ab_rg0).mp x; omega
  rw [if_pos hne, ab_I_div ha ha2 hb hb2, ab_I_mul, ab_I_sub]
  have e : a - a / b * b = a % b := by
    have := Int.emod_def a b
    rw [Int.mul_comm] at this
    exact this.symm
  rw [e]
theorem ab_oEnd_i {x : Int32} : ab_iret ls [.int x] h = some (.inr (.inl (.inl (some (.int x)), h))) := rfl
theorem ab_oEnd_z {a : Int} (ha : a = 0 ∨ a = 1) : ab_zret ls [.int (ab_I a)] h = some (.inr (.inl (.inl (some (.int (ab_I a))), h))) := if_pos (by rcases ha with rfl | rfl; exact .inl rfl; exact .inr rfl)
theorem ab_oEnd_c {a : Int} (h0 : 0 ≤ a) (h1 : a ≤ 65535) : ab_cret ls [.int (ab_I a)] h = some (.inr (.inl (.inl (some (.int (ab_I a))), h))) := if_pos ⟨(ab_I_le ab_rg0 ⟨by omega, by omega⟩).mpr h0, (ab_I_le (b := 65535) ⟨by omega, by omega⟩ ⟨by omega, by omega⟩).mpr h1⟩
theorem ab_oEnd_b : ab_bret ls [.int (ab_I 0)] h = some (.inr (.inl (.inl (some (.int (ab_I 0))), h))) := by unfold ab_bret; dsimp only; rw [if_pos ab_I0.symm]
theorem ab_fitz {a : Int} (ha : a = 0 ∨ a = 1) : ab_fit .boolean (.int (ab_I a)) = true := by rcases ha with rfl | rfl <;> rfl
theorem ab_fitc {a : Int} (h0 : 0 ≤ a) (h1 : a ≤ 65535) : ab_fit .char (.int (ab_I a)) = true := by
  have e1 : (0 : Int32) ≤ ab_I a := (ab_I_le ab_rg0 ⟨by omega, by omega⟩).mpr h0
  have e2 : ab_I a ≤ (65535 : Int32) := (ab_I_le (b := 65535) ⟨by omega, by omega⟩ ⟨by omega, by omega⟩).mpr h1
  show (decide _ && decide _) = true
  rw [decide_eq_true e1, decide_eq_true e2]
  rfl
theorem ab_nar0 (x : Int32) : vp_nar .int x = x := rfl
theorem ab_narz {a : Int} (ha : a = 0 ∨ a = 1) : vp_nar .boolean (ab_I a) = ab_I a := by rcases ha with rfl | rfl <;> decide +kernel
theorem ab_I_nat (n : Nat) : ab_I n = nI n := Int32.ofInt_eq_ofNat
theorem ab_narc {a : Int} (h0 : 0 ≤ a) (h1 : a ≤ 65535) : vp_nar .char (ab_I a) = ab_I a := by
  have e : a = (a.toNat : Int) := by omega
  have h := (pk_charN (q := a.toNat) (by omega)).1
  rw [e, ab_I_nat]
  unfold vp_nar
  rw [h]
theorem ab_getD_ge {α : Type} (d : α) : ∀ (l : List α) (n : Nat), l.length ≤ n → l.getD n d = d
  | [], _, _ => rfl
  | _ :: r, 0, h => absurd h (Nat.not_succ_le_zero _)
  | _ :: r, n + 1, h => ab_getD_ge d r n (Nat.le_of_succ_le_succ h)
theorem ab_oTsw {lo : Int} {ts : List Nat} {d : Nat} {a : Int} (ha : ab_rg a) (ht : (if a < lo then d else ts.getD (a - lo).toNat d) = t) : ab_tsw lo ts d ls (.int (ab_I a) :: st) h = some (.inl (t, ls, st, h)) := by
  unfold ab_tsw
  dsimp only
  rw [ab_I_toInt ha, ht]
theorem ab_oTswD {lo : Int} {ts : List Nat} {d : Nat} {a : Int} (ha : ab_rg a) (ht : a < lo ∨ lo + ts.length ≤ a) : ab_tsw lo ts d ls (.int (ab_I a) :: st) h = some (.inl (d, ls, st, h)) := by
  refine ab_oTsw ha ?_
  by_cases x : a < lo
  · rw [if_pos x]
  · rw [if_neg x, ab_getD_ge]
    omega
theorem ab_Ieq0 {a : Int} (ha : ab_rg a) : (ab_I a = 0) ↔ a = 0 := ab_I_eq ha ab_rg0
theorem ab_Ilt0 {a : Int} (ha : ab_rg a) : (ab_I a < 0) ↔ a < 0 := ab_I_lt ha ab_rg0
theorem ab_I0le {a : Int} (ha : ab_rg a) : (0 ≤ ab_I a) ↔ 0 ≤ a := ab_I_le ab_rg0 ha
theorem ab_I0lt {a : Int} (ha : ab_rg a) : (0 < ab_I a) ↔ 0 < a := ab_I_lt ab_rg0 ha
theorem ab_Ile0 {a : Int} (ha : ab_rg a) : (ab_I a ≤ 0) ↔ a ≤ 0 := ab_I_le ha ab_rg0
/-- 2 << a -/
def ab_pw (a : Int) : Int := if a = 0 then 2 else if a = 1 then 4 else if a = 2 then 8 else 16
theorem ab_oShl2 {a : Int} (h0 : 0 ≤ a) (h1 : a ≤ 3) : ab_ishl nx ls (.int (ab_I a) :: .int (ab_I 2) :: st) h = some (.inl (nx, ls, .int (ab_I (ab_pw a)) :: st, h)) := by
  have e : a = 0 ∨ a = 1 ∨ a = 2 ∨ a = 3 := by omega
  rcases e with rfl | rfl | rfl | rfl <;> rfl
theorem ab_Ieq_ne {a b : Int} (ha : ab_rg a) (hb : ab_rg b) : (ab_I a = ab_I b) ↔ a = b := ab_I_eq ha hb
/-- the int arrays of the model of 322 and of 2576 -/
def ab_mi (a : Nat) : Prop := a = 501 ∨ a = 502 ∨ a = 503 ∨ a = 504
def ab_ml (a : Nat) : Nat := if a = 502 then 2576 else 322
theorem ab_mr_mi {a : Nat} (ha : ab_mi a) (d : Int → Int) (l : Int → Int64) (z : ab_Z) : ab_mr d l z a = some (.inl (0, ab_ml a, .inl (fun j => ab_I (d j)))) := by rcases ha with rfl | rfl | rfl | rfl <;> rfl
theorem ab_ml_le {a : Nat} (ha : ab_mi a) : ab_ml a ≤ 60000000 := by rcases ha with rfl | rfl | rfl | rfl <;> decide
theorem ab_updI {d : Int → Int} {i : Int} (h0 : 0 ≤ i) (v : Int) : upd (fun j : Nat => ab_I (d j)) i.toNat (ab_I v) = fun j : Nat => ab_I (if (j : Int) = i then v else d j) := by
  funext j
  unfold upd
  by_cases x : j = i.toNat
  · rw [if_pos x, if_pos (by omega)]
  · rw [if_neg x, if_neg (by omega)]
theorem ab_updL {d : Int → Int64} {i : Int} (h0 : 0 ≤ i) (v : Int64) : vp_updL (fun j : Nat => d j) i.toNat v = fun j : Nat => if (j : Int) = i then v else d j := by
  funext j
  unfold vp_updL
  by_cases x : j = i.toNat
  · rw [if_pos x, if_pos (by omega)]
  · rw [if_neg x, if_neg (by omega)]
end
