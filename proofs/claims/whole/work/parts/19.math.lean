/-! ===== sums, pages, firsts ===== -/
def ab_sN (f : Int → Int) : Nat → Int
  | 0 => 0
  | n + 1 => ab_sN f n + f n
/-- the sum of f over 0 .. n - 1 -/
def ab_S (f : Int → Int) (n : Int) : Int := ab_sN f n.toNat
theorem ab_S0 (f : Int → Int) : ab_S f 0 = 0 := rfl
theorem ab_Sneg (f : Int → Int) {n : Int} (h : n ≤ 0) : ab_S f n = 0 := by
  unfold ab_S
  rw [Int.toNat_eq_zero.mpr h]
  rfl
theorem ab_S1 (f : Int → Int) {n : Int} (h : 0 ≤ n) : ab_S f (n + 1) = ab_S f n + f n := by
  unfold ab_S
  have e : (n + 1).toNat = n.toNat + 1 := by omega
  have e2 : ((n.toNat : Nat) : Int) = n := Int.toNat_of_nonneg h
  rw [e]
  show ab_sN f n.toNat + f (n.toNat : Nat) = _
  rw [e2]
theorem ab_Sind {P : Int → Prop} (h0 : P 0) (h1 : ∀ n, 0 ≤ n → P n → P (n + 1)) (n : Int) (hn : 0 ≤ n) : P n := by
  have e : ((n.toNat : Nat) : Int) = n := Int.toNat_of_nonneg hn
  rw [← e]
  have : ∀ k : Nat, P (k : Int) := by
    intro k
    induction k with
    | zero => exact h0
    | succ k ih => exact h1 k (Int.natCast_nonneg k) ih
  exact this _
theorem ab_Scongr {f g : Int → Int} {n : Int} (h : ∀ i, 0 ≤ i → i < n → f i = g i) : ab_S f n = ab_S g n := by
  by_cases hn : 0 ≤ n
  · have : ∀ m, 0 ≤ m → m ≤ n → ab_S f m = ab_S g m := by
      intro m hm
      refine ab_Sind (P := fun m => m ≤ n → ab_S f m = ab_S g m) (fun _ => rfl) (fun k hk ih hle => ?_) m hm
      rw [ab_S1 f hk, ab_S1 g hk, ih (by omega), h k hk (by omega)]
    exact this n hn (by omega)
  · rw [ab_Sneg f (by omega), ab_Sneg g (by omega)]
theorem ab_Sle {f : Int → Int} {n : Int} (c : Int) (hn : 0 ≤ n) (h : ∀ i, 0 ≤ i → i < n → f i ≤ c) : ab_S f n ≤ c * n := by
  have : ∀ m, 0 ≤ m → m ≤ n → ab_S f m ≤ c * m := by
    intro m hm
    refine ab_Sind (P := fun m => m ≤ n → ab_S f m ≤ c * m) (fun _ => by rw [ab_S0]; omega) (fun k hk ih hle => ?_) m hm
    have h1 := h k hk (by omega)
    have h2 := ih (by omega)
    rw [ab_S1 f hk, Int.mul_add]
    omega
  exact this n hn (by omega)
theorem ab_Sge {f : Int → Int} {n : Int} (c : Int) (hn : 0 ≤ n) (h : ∀ i, 0 ≤ i → i < n → c ≤ f i) : c * n ≤ ab_S f n := by
  have : ∀ m, 0 ≤ m → m ≤ n → c * m ≤ ab_S f m := by
    intro m hm
    refine ab_Sind (P := fun m => m ≤ n → c * m ≤ ab_S f m) (fun _ => by rw [ab_S0]; omega) (fun k hk ih hle => ?_) m hm
    have h1 := h k hk (by omega)
    have h2 := ih (by omega)
    rw [ab_S1 f hk, Int.mul_add]
    omega
  exact this n hn (by omega)
theorem ab_Smono {f : Int → Int} {n m : Int} (h0 : 0 ≤ n) (hnm : n ≤ m) (h : ∀ i, 0 ≤ i → i < m → 0 ≤ f i) : ab_S f n ≤ ab_S f m := by
  have : ∀ k, 0 ≤ k → n + k ≤ m → ab_S f n ≤ ab_S f (n + k) := by
    intro k hk
    refine ab_Sind (P := fun k => n + k ≤ m → ab_S f n ≤ ab_S f (n + k)) (fun _ => by rw [Int.add_zero]; exact Int.le_refl _) (fun j hj ih hle => ?_) k hk
    have h1 := h (n + j) (by omega) (by omega)
    have h2 := ih (by omega)
    rw [← Int.add_assoc, ab_S1 f (n := n + j) (by omega)]
    omega
  have h2 := this (m - n) (by omega) (by omega)
  rwa [show n + (m - n) = m by omega] at h2
/-- the sum over a sum of lengths -/
theorem ab_Snest {g f : Int → Int} {a : Int} (ha : 0 ≤ a) {n : Int} (hn : 0 ≤ n) : ab_S (fun i => g (a + i)) n = ab_S g (a + n) - ab_S g a := by
  refine ab_Sind (P := fun n => ab_S (fun i => g (a + i)) n = ab_S g (a + n) - ab_S g a) ?_ (fun k hk ih => ?_) n hn
  · rw [ab_S0, Int.add_zero, Int.sub_self]
  · rw [ab_S1 _ hk, ih, ← Int.add_assoc, ab_S1 g (n := a + k) (by omega)]
    omega
/-- the page at p, or -1: lengths f, pages l -/
def ab_pN (f : Int → Int) (l : Int → Int → Int) (p : Int) : Nat → Int
  | 0 => -1
  | n + 1 => if ab_S f n ≤ p ∧ p < ab_S f n + f n then l n (p - ab_S f n) else ab_pN f l p n
def ab_pg (f : Int → Int) (l : Int → Int → Int) (n p : Int) : Int := ab_pN f l p n.toNat
theorem ab_pg0 (f : Int → Int) (l : Int → Int → Int) (p : Int) : ab_pg f l 0 p = -1 := rfl
theorem ab_pg1 (f : Int → Int) (l : Int → Int → Int) {n : Int} (h : 0 ≤ n) (p : Int) : ab_pg f l (n + 1) p = if ab_S f n ≤ p ∧ p < ab_S f n + f n then l n (p - ab_S f n) else ab_pg f l n p := by
  unfold ab_pg
  have e : (n + 1).toNat = n.toNat + 1 := by omega
  have e2 : ((n.toNat : Nat) : Int) = n := Int.toNat_of_nonneg h
  rw [e]
  show (if ab_S f (n.toNat : Nat) ≤ p ∧ p < ab_S f (n.toNat : Nat) + f (n.toNat : Nat) then l (n.toNat : Nat) (p - ab_S f (n.toNat : Nat)) else ab_pN f l p n.toNat) = _
  rw [e2]
/-- at a place -/
theorem ab_pg_at {f : Int → Int} {l : Int → Int → Int} {n s p : Int} (hf : ∀ i, 0 ≤ i → i < n → 0 ≤ f i) (h0 : 0 ≤ s) (h1 : s < n) (h2 : ab_S f s ≤ p) (h3 : p < ab_S f s + f s) : ab_pg f l n p = l s (p - ab_S f s) := by
  have : ∀ k, 0 ≤ k → s + 1 + k ≤ n → ab_pg f l (s + 1 + k) p = l s (p - ab_S f s) := by
    intro k hk
    refine ab_Sind (P := fun k => s + 1 + k ≤ n → ab_pg f l (s + 1 + k) p = l s (p - ab_S f s)) (fun _ => ?_) (fun j hj ih hle => ?_) k hk
    · rw [Int.add_zero, ab_pg1 f l h0, if_pos ⟨h2, h3⟩]
    · have hm := ab_Smono (f := f) (n := s + 1) (m := s + 1 + j) (by omega) (by omega) (fun i a b => hf i a (by omega))
      rw [ab_S1 f h0] at hm
      rw [← Int.add_assoc, ab_pg1 f l (n := s + 1 + j) (by omega), if_neg (by omega), ih (by omega)]
  have h := this (n - s - 1) (by omega) (by omega)
  rwa [show s + 1 + (n - s - 1) = n by omega] at h
/-- behind the last, and ahead of the first -/
theorem ab_pg_no {f : Int → Int} {l : Int → Int → Int} {n p : Int} (hn : 0 ≤ n) (hf : ∀ i, 0 ≤ i → i < n → 0 ≤ f i) (h : p < 0 ∨ ab_S f n ≤ p) : ab_pg f l n p = -1 := by
  have : ∀ m, 0 ≤ m → m ≤ n → ab_pg f l m p = -1 := by
    intro m hm
    refine ab_Sind (P := fun m => m ≤ n → ab_pg f l m p = -1) (fun _ => rfl) (fun k hk ih hle => ?_) m hm
    have hm := ab_Smono (f := f) (n := k + 1) (m := n) (by omega) (by omega) hf
    have h9 := ab_Smono (f := f) (n := 0) (m := k) (by omega) (by omega) (fun i a b => hf i a (by omega))
    rw [ab_S0] at h9
    rw [ab_S1 f hk] at hm
    rw [ab_pg1 f l hk, if_neg (by omega), ih (by omega)]
  exact this n hn (by omega)
theorem ab_pg_congr {f g : Int → Int} {l m : Int → Int → Int} {n p : Int} (hn : 0 ≤ n) (hfg : ∀ i, 0 ≤ i → i < n → f i = g i) (hlm : ∀ i j, 0 ≤ i → i < n → 0 ≤ j → j < f i → l i j = m i j) : ab_pg f l n p = ab_pg g m n p := by
  have : ∀ k, 0 ≤ k → k ≤ n → ab_pg f l k p = ab_pg g m k p := by
    intro k hk
    refine ab_Sind (P := fun k => k ≤ n → ab_pg f l k p = ab_pg g m k p) (fun _ => rfl) (fun j hj ih hle => ?_) k hk
    have e := ab_Scongr (f := f) (g := g) (n := j) (fun i a b => hfg i a (by omega))
    have e2 := hfg j hj (by omega)
    rw [ab_pg1 f l hj, ab_pg1 g m hj, ih (by omega), ← e, ← e2]
    by_cases hc : ab_S f j ≤ p ∧ p < ab_S f j + f j
    · rw [if_pos hc, if_pos hc]
      exact hlm j _ hj (by omega) (by omega) (by omega)
    · rw [if_neg hc, if_neg hc]
  exact this n hn (by omega)
/-- which place -/
theorem ab_place {f : Int → Int} {n p : Int} (hn : 0 ≤ n) (h0 : 0 ≤ p) (h1 : p < ab_S f n) : ∃ s, 0 ≤ s ∧ s < n ∧ ab_S f s ≤ p ∧ p < ab_S f s + f s := by
  have : ∀ k, 0 ≤ k → p < ab_S f k → ∃ s, 0 ≤ s ∧ s < k ∧ ab_S f s ≤ p ∧ p < ab_S f s + f s := by
    intro k hk
    refine ab_Sind (P := fun k => p < ab_S f k → ∃ s, 0 ≤ s ∧ s < k ∧ ab_S f s ≤ p ∧ p < ab_S f s + f s) (fun h => ?_) (fun j hj ih h => ?_) k hk
    · rw [ab_S0] at h
      omega
    · rw [ab_S1 f hj] at h
      by_cases hc : p < ab_S f j
      · obtain ⟨s, a, b, c, d⟩ := ih hc
        exact ⟨s, a, by omega, c, d⟩
      · exact ⟨j, hj, by omega, by omega, h⟩
  exact this n hn h1
/-- the first of 0 .. n - 1 with g = 1, or -1 -/
def ab_fN (g : Int → Int) : Nat → Int
  | 0 => -1
  | n + 1 => if ab_fN g n = -1 then (if g n = 1 then (n : Int) else -1) else ab_fN g n
def ab_ff (g : Int → Int) (n : Int) : Int := ab_fN g n.toNat
theorem ab_ff0 (g : Int → Int) : ab_ff g 0 = -1 := rfl
theorem ab_ff1 (g : Int → Int) {n : Int} (h : 0 ≤ n) : ab_ff g (n + 1) = if ab_ff g n = -1 then (if g n = 1 then n else -1) else ab_ff g n := by
  unfold ab_ff
  have e : (n + 1).toNat = n.toNat + 1 := by omega
  have e2 : ((n.toNat : Nat) : Int) = n := Int.toNat_of_nonneg h
  rw [e]
  show (if ab_fN g n.toNat = -1 then (if g (n.toNat : Nat) = 1 then ((n.toNat : Nat) : Int) else -1) else ab_fN g n.toNat) = _
  rw [e2]
theorem ab_ff_no {g : Int → Int} {n : Int} (hn : 0 ≤ n) (h : ∀ i, 0 ≤ i → i < n → g i ≠ 1) : ab_ff g n = -1 := by
  have : ∀ k, 0 ≤ k → k ≤ n → ab_ff g k = -1 := by
    intro k hk
    refine ab_Sind (P := fun k => k ≤ n → ab_ff g k = -1) (fun _ => rfl) (fun j hj ih hle => ?_) k hk
    rw [ab_ff1 g hj, if_pos (ih (by omega)), if_neg (h j hj (by omega))]
  exact this n hn (by omega)
theorem ab_ff_at {g : Int → Int} {n k : Int} (h0 : 0 ≤ k) (hk : k < n) (h : ∀ i, 0 ≤ i → i < k → g i ≠ 1) (h1 : g k = 1) : ab_ff g n = k := by
  have : ∀ j, 0 ≤ j → k + 1 + j ≤ n → ab_ff g (k + 1 + j) = k := by
    intro j hj
    refine ab_Sind (P := fun j => k + 1 + j ≤ n → ab_ff g (k + 1 + j) = k) (fun _ => ?_) (fun i hi ih hle => ?_) j hj
    · rw [Int.add_zero, ab_ff1 g h0, if_pos (ab_ff_no h0 h), if_pos h1]
    · rw [← Int.add_assoc, ab_ff1 g (n := k + 1 + i) (by omega), ih (by omega), if_neg (by omega)]
  have h := this (n - k - 1) (by omega) (by omega)
  rwa [show k + 1 + (n - k - 1) = n by omega] at h
theorem ab_ff_congr {g g' : Int → Int} {n : Int} (hn : 0 ≤ n) (h : ∀ i, 0 ≤ i → i < n → g i = g' i) : ab_ff g n = ab_ff g' n := by
  have : ∀ k, 0 ≤ k → k ≤ n → ab_ff g k = ab_ff g' k := by
    intro k hk
    refine ab_Sind (P := fun k => k ≤ n → ab_ff g k = ab_ff g' k) (fun _ => rfl) (fun j hj ih hle => ?_) k hk
    rw [ab_ff1 g hj, ab_ff1 g' hj, ih (by omega), h j hj (by omega)]
  exact this n hn (by omega)
theorem ab_ff_rg {g : Int → Int} {n : Int} (hn : 0 ≤ n) : -1 ≤ ab_ff g n ∧ ab_ff g n < n ∨ ab_ff g n = -1 := by
  have : ∀ k, 0 ≤ k → (-1 ≤ ab_ff g k ∧ ab_ff g k < k ∨ ab_ff g k = -1) := by
    intro k hk
    refine ab_Sind (P := fun k => -1 ≤ ab_ff g k ∧ ab_ff g k < k ∨ ab_ff g k = -1) (.inr rfl) (fun j hj ih => ?_) k hk
    rw [ab_ff1 g hj]
    split
    · split <;> omega
    · omega
  exact this n hn
/-! ===== ends ===== -/
theorem ab_fin {a b : Int} {h h' : ab_H} (e : a = b) (eh : h = h') : (some (.inl (some (.int (ab_I a))), h) : Option (ab_O × ab_H)) = some (.inl (some (.int (ab_I b))), h') := by rw [e, eh]
theorem ab_br_c {K : ab_Kt} {M t nx : Nat} {ls : ab_Ls} {st : List Value} {h : ab_H} {c : Prop} [Decidable c] {r : Option (ab_O × ab_H)} (h1 : c → ab_ev K M t ls st h = r) (h2 : ¬ c → ab_ev K M nx ls st h = r) : ab_br K M t nx ls st h c = r := by
  by_cases x : c
  · rw [ab_br_t x, h1 x]
  · rw [ab_br_f x, h2 x]
theorem ab_rgI {z : Int} (h1 : -2147483648 ≤ z) (h2 : z < 2147483648) : ab_rg z := ⟨h1, h2⟩
theorem ab_gK {ls : ab_Ls} {i : Nat} (h : ab_g ls i = true) : ab_g ls i = true := h
