/-! ===== all code tables hold; the handlers; the run is what the machine does ===== -/
theorem ab_hk3 : ab_HOK ab_g3 ab_hn3 := by
  intro pc E
  unfold ab_hn3
  by_cases hp : pc = 3
  · subst hp
    rw [if_pos rfl]
    by_cases h0 : E = "java/lang/IllegalStateException"
    · subst h0
      refine ⟨fun h => ?_, fun ph h => ?_⟩
      · revert h; simp
      · have e : ph = 11 := by revert h; simp; exact fun h => h.symm
        subst e
        exact ⟨[], ⟨0, 8, 11, 113⟩, [], rfl, fun z hz => absurd hz List.not_mem_nil, by decide, by decide, ab_w1405, by simp [ab_nw], rfl⟩
    · rw [if_neg h0]
      exact ⟨fun h => (by cases h), fun ph h => (by cases h)⟩
  · rw [if_neg hp]
    exact ⟨fun h => (by cases h), fun ph h => (by cases h)⟩
theorem ab_hk8 : ab_HOK ab_g8 ab_hn8 := by
  intro pc E
  unfold ab_hn8
  by_cases hp : pc = 3
  · subst hp
    rw [if_pos rfl]
    by_cases h0 : E = "java/lang/IllegalStateException"
    · subst h0
      refine ⟨fun h => ?_, fun ph h => ?_⟩
      · revert h; simp
      · have e : ph = 11 := by revert h; simp; exact fun h => h.symm
        subst e
        exact ⟨[], ⟨0, 8, 11, 113⟩, [], rfl, fun z hz => absurd hz List.not_mem_nil, by decide, by decide, ab_w1405, by simp [ab_nw], rfl⟩
    · rw [if_neg h0]
      exact ⟨fun h => (by cases h), fun ph h => (by cases h)⟩
  · rw [if_neg hp]
    exact ⟨fun h => (by cases h), fun ph h => (by cases h)⟩
theorem ab_hk10 : ab_HOK ab_g10 ab_hn10 := by
  intro pc E
  unfold ab_hn10
  by_cases hp : pc = 4
  · subst hp
    rw [if_pos rfl]
    by_cases h0 : E = "java/lang/IllegalArgumentException"
    · subst h0
      refine ⟨fun h => ?_, fun ph h => ?_⟩
      · revert h; simp
      · have e : ph = 12 := by revert h; simp; exact fun h => h.symm
        subst e
        exact ⟨[], ⟨0, 9, 12, 59⟩, [], rfl, fun z hz => absurd hz List.not_mem_nil, by decide, by decide, ab_w1406, by simp [ab_nw], rfl⟩
    · rw [if_neg h0]
      exact ⟨fun h => (by cases h), fun ph h => (by cases h)⟩
  · rw [if_neg hp]
    exact ⟨fun h => (by cases h), fun ph h => (by cases h)⟩
theorem ab_hk12 : ab_HOK ab_g12 ab_hn12 := by
  intro pc E
  unfold ab_hn12
  by_cases hp : pc = 3
  · subst hp
    rw [if_pos rfl]
    by_cases h0 : E = "java/lang/ArithmeticException"
    · subst h0
      refine ⟨fun h => ?_, fun ph h => ?_⟩
      · revert h; simp
      · have e : ph = 10 := by revert h; simp; exact fun h => h.symm
        subst e
        exact ⟨[], ⟨0, 7, 10, 133⟩, [], rfl, fun z hz => absurd hz List.not_mem_nil, by decide, by decide, ab_w1407, by simp [ab_nw], rfl⟩
    · rw [if_neg h0]
      exact ⟨fun h => (by cases h), fun ph h => (by cases h)⟩
  · rw [if_neg hp]
    exact ⟨fun h => (by cases h), fun ph h => (by cases h)⟩
theorem ab_hk14 : ab_HOK ab_g14 ab_hn14 := by
  intro pc E
  unfold ab_hn14
  by_cases hp : pc = 4
  · subst hp
    rw [if_pos rfl]
    by_cases h0 : E = "java/lang/IndexOutOfBoundsException"
    · subst h0
      refine ⟨fun h => ?_, fun ph h => ?_⟩
      · revert h; simp
      · have e : ph = 12 := by revert h; simp; exact fun h => h.symm
        subst e
        exact ⟨[], ⟨0, 9, 12, 57⟩, [⟨0, 9, 15, 133⟩], rfl, fun z hz => absurd hz List.not_mem_nil, by decide, by decide, ab_w1408, by simp [ab_nw], rfl⟩
    · rw [if_neg h0]
      by_cases h1 : E = "java/lang/ArithmeticException"
      · subst h1
        refine ⟨fun h => ?_, fun ph h => ?_⟩
        · revert h; simp
        · have e : ph = 15 := by revert h; simp; exact fun h => h.symm
          subst e
          exact ⟨[⟨0, 9, 12, 57⟩], ⟨0, 9, 15, 133⟩, [], rfl, fun z hz => by rw [List.mem_singleton.mp hz]; exact Or.inr ⟨by decide, "java/lang/IndexOutOfBoundsException", ab_w1408, by decide⟩, by decide, by decide, ab_w1407, by simp [ab_nw], rfl⟩
      · rw [if_neg h1]
        exact ⟨fun h => (by cases h), fun ph h => (by cases h)⟩
  · rw [if_neg hp]
    exact ⟨fun h => (by cases h), fun ph h => (by cases h)⟩
theorem ab_hk16 : ab_HOK ab_g16 ab_hn16 := by
  intro pc E
  unfold ab_hn16
  by_cases hp : pc = 4
  · subst hp
    rw [if_pos rfl]
    by_cases h0 : E = "java/lang/IndexOutOfBoundsException"
    · subst h0
      refine ⟨fun h => ?_, fun ph h => ?_⟩
      · revert h; simp
      · have e : ph = 12 := by revert h; simp; exact fun h => h.symm
        subst e
        exact ⟨[], ⟨0, 9, 12, 57⟩, [], rfl, fun z hz => absurd hz List.not_mem_nil, by decide, by decide, ab_w1408, by simp [ab_nw], rfl⟩
    · rw [if_neg h0]
      exact ⟨fun h => (by cases h), fun ph h => (by cases h)⟩
  · rw [if_neg hp]
    exact ⟨fun h => (by cases h), fun ph h => (by cases h)⟩
theorem ab_hk18 : ab_HOK ab_g18 ab_hn18 := by
  intro pc E
  unfold ab_hn18
  by_cases hp : pc = 4
  · subst hp
    rw [if_pos rfl]
    by_cases h0 : E = "java/lang/IndexOutOfBoundsException"
    · subst h0
      refine ⟨fun h => ?_, fun ph h => ?_⟩
      · revert h; simp
      · have e : ph = 12 := by revert h; simp; exact fun h => h.symm
        subst e
        exact ⟨[], ⟨0, 9, 12, 57⟩, [], rfl, fun z hz => absurd hz List.not_mem_nil, by decide, by decide, ab_w1408, by simp [ab_nw], rfl⟩
    · rw [if_neg h0]
      exact ⟨fun h => (by cases h), fun ph h => (by cases h)⟩
  · rw [if_neg hp]
    exact ⟨fun h => (by cases h), fun ph h => (by cases h)⟩
theorem ab_hk20 : ab_HOK ab_g20 ab_hn20 := by
  intro pc E
  unfold ab_hn20
  by_cases hp : pc = 4
  · subst hp
    rw [if_pos rfl]
    by_cases h0 : E = "java/lang/IllegalArgumentException"
    · subst h0
      refine ⟨fun h => ?_, fun ph h => ?_⟩
      · revert h; simp
      · have e : ph = 12 := by revert h; simp; exact fun h => h.symm
        subst e
        exact ⟨[], ⟨0, 9, 12, 59⟩, [⟨0, 9, 15, 76⟩], rfl, fun z hz => absurd hz List.not_mem_nil, by decide, by decide, ab_w1406, by simp [ab_nw], rfl⟩
    · rw [if_neg h0]
      by_cases h1 : E = "java/util/NoSuchElementException"
      · subst h1
        refine ⟨fun h => ?_, fun ph h => ?_⟩
        · revert h; simp
        · have e : ph = 15 := by revert h; simp; exact fun h => h.symm
          subst e
          exact ⟨[⟨0, 9, 12, 59⟩], ⟨0, 9, 15, 76⟩, [], rfl, fun z hz => by rw [List.mem_singleton.mp hz]; exact Or.inr ⟨by decide, "java/lang/IllegalArgumentException", ab_w1406, by decide⟩, by decide, by decide, ab_w1409, by simp [ab_nw], rfl⟩
      · rw [if_neg h1]
        exact ⟨fun h => (by cases h), fun ph h => (by cases h)⟩
  · rw [if_neg hp]
    exact ⟨fun h => (by cases h), fun ph h => (by cases h)⟩
theorem ab_hk24 : ab_HOK ab_g24 ab_hn24 := by
  intro pc E
  unfold ab_hn24
  by_cases hp : pc = 3
  · subst hp
    rw [if_pos rfl]
    by_cases h0 : E = "java/lang/IllegalArgumentException"
    · subst h0
      refine ⟨fun h => ?_, fun ph h => ?_⟩
      · revert h; simp
      · have e : ph = 11 := by revert h; simp; exact fun h => h.symm
        subst e
        exact ⟨[], ⟨0, 8, 11, 59⟩, [⟨0, 8, 14, 13⟩], rfl, fun z hz => absurd hz List.not_mem_nil, by decide, by decide, ab_w1406, by simp [ab_nw], rfl⟩
    · rw [if_neg h0]
      by_cases h1 : E = "java/lang/UnsupportedOperationException"
      · subst h1
        refine ⟨fun h => ?_, fun ph h => ?_⟩
        · revert h; simp
        · have e : ph = 14 := by revert h; simp; exact fun h => h.symm
          subst e
          exact ⟨[⟨0, 8, 11, 59⟩], ⟨0, 8, 14, 13⟩, [], rfl, fun z hz => by rw [List.mem_singleton.mp hz]; exact Or.inr ⟨by decide, "java/lang/IllegalArgumentException", ab_w1406, by decide⟩, by decide, by decide, ab_w1410, by simp [ab_nw], rfl⟩
      · rw [if_neg h1]
        exact ⟨fun h => (by cases h), fun ph h => (by cases h)⟩
  · rw [if_neg hp]
    exact ⟨fun h => (by cases h), fun ph h => (by cases h)⟩
theorem ab_hk26 : ab_HOK ab_g26 ab_hn26 := by
  intro pc E
  unfold ab_hn26
  by_cases hp : pc = 4
  · subst hp
    rw [if_pos rfl]
    by_cases h0 : E = "java/lang/IllegalStateException"
    · subst h0
      refine ⟨fun h => ?_, fun ph h => ?_⟩
      · revert h; simp
      · have e : ph = 12 := by revert h; simp; exact fun h => h.symm
        subst e
        exact ⟨[], ⟨0, 9, 12, 113⟩, [], rfl, fun z hz => absurd hz List.not_mem_nil, by decide, by decide, ab_w1405, by simp [ab_nw], rfl⟩
    · rw [if_neg h0]
      exact ⟨fun h => (by cases h), fun ph h => (by cases h)⟩
  · rw [if_neg hp]
    exact ⟨fun h => (by cases h), fun ph h => (by cases h)⟩
theorem ab_hk28 : ab_HOK ab_g28 ab_hn28 := by
  intro pc E
  unfold ab_hn28
  by_cases hp : pc = 4
  · subst hp
    rw [if_pos rfl]
    by_cases h0 : E = "java/util/NoSuchElementException"
    · subst h0
      refine ⟨fun h => ?_, fun ph h => ?_⟩
      · revert h; simp
      · have e : ph = 12 := by revert h; simp; exact fun h => h.symm
        subst e
        exact ⟨[], ⟨0, 9, 12, 76⟩, [], rfl, fun z hz => absurd hz List.not_mem_nil, by decide, by decide, ab_w1409, by simp [ab_nw], rfl⟩
    · rw [if_neg h0]
      exact ⟨fun h => (by cases h), fun ph h => (by cases h)⟩
  · rw [if_neg hp]
    exact ⟨fun h => (by cases h), fun ph h => (by cases h)⟩
theorem ab_hk30 : ab_HOK ab_g30 ab_hn30 := by
  intro pc E
  unfold ab_hn30
  by_cases hp : pc = 4
  · subst hp
    rw [if_pos rfl]
    by_cases h0 : E = "java/lang/IndexOutOfBoundsException"
    · subst h0
      refine ⟨fun h => ?_, fun ph h => ?_⟩
      · revert h; simp
      · have e : ph = 12 := by revert h; simp; exact fun h => h.symm
        subst e
        exact ⟨[], ⟨0, 9, 12, 57⟩, [⟨0, 9, 15, 76⟩], rfl, fun z hz => absurd hz List.not_mem_nil, by decide, by decide, ab_w1408, by simp [ab_nw], rfl⟩
    · rw [if_neg h0]
      by_cases h1 : E = "java/util/NoSuchElementException"
      · subst h1
        refine ⟨fun h => ?_, fun ph h => ?_⟩
        · revert h; simp
        · have e : ph = 15 := by revert h; simp; exact fun h => h.symm
          subst e
          exact ⟨[⟨0, 9, 12, 57⟩], ⟨0, 9, 15, 76⟩, [], rfl, fun z hz => by rw [List.mem_singleton.mp hz]; exact Or.inr ⟨by decide, "java/lang/IndexOutOfBoundsException", ab_w1408, by decide⟩, by decide, by decide, ab_w1409, by simp [ab_nw], rfl⟩
      · rw [if_neg h1]
        exact ⟨fun h => (by cases h), fun ph h => (by cases h)⟩
  · rw [if_neg hp]
    exact ⟨fun h => (by cases h), fun ph h => (by cases h)⟩
theorem ab_hk32 : ab_HOK ab_g32 ab_hn32 := by
  intro pc E
  unfold ab_hn32
  by_cases hp : pc = 4
  · subst hp
    rw [if_pos rfl]
    by_cases h0 : E = "java/lang/IndexOutOfBoundsException"
    · subst h0
      refine ⟨fun h => ?_, fun ph h => ?_⟩
      · revert h; simp
      · have e : ph = 12 := by revert h; simp; exact fun h => h.symm
        subst e
        exact ⟨[], ⟨0, 9, 12, 57⟩, [⟨0, 9, 15, 76⟩], rfl, fun z hz => absurd hz List.not_mem_nil, by decide, by decide, ab_w1408, by simp [ab_nw], rfl⟩
    · rw [if_neg h0]
      by_cases h1 : E = "java/util/NoSuchElementException"
      · subst h1
        refine ⟨fun h => ?_, fun ph h => ?_⟩
        · revert h; simp
        · have e : ph = 15 := by revert h; simp; exact fun h => h.symm
          subst e
          exact ⟨[⟨0, 9, 12, 57⟩], ⟨0, 9, 15, 76⟩, [], rfl, fun z hz => by rw [List.mem_singleton.mp hz]; exact Or.inr ⟨by decide, "java/lang/IndexOutOfBoundsException", ab_w1408, by decide⟩, by decide, by decide, ab_w1409, by simp [ab_nw], rfl⟩
      · rw [if_neg h1]
        exact ⟨fun h => (by cases h), fun ph h => (by cases h)⟩
  · rw [if_neg hp]
    exact ⟨fun h => (by cases h), fun ph h => (by cases h)⟩
theorem ab_hk34 : ab_HOK ab_g34 ab_hn34 := by
  intro pc E
  unfold ab_hn34
  by_cases hp : pc = 5
  · subst hp
    rw [if_pos rfl]
    by_cases h0 : E = "java/lang/IndexOutOfBoundsException"
    · subst h0
      refine ⟨fun h => ?_, fun ph h => ?_⟩
      · revert h; simp
      · have e : ph = 13 := by revert h; simp; exact fun h => h.symm
        subst e
        exact ⟨[], ⟨0, 10, 13, 57⟩, [⟨0, 10, 17, 76⟩], rfl, fun z hz => absurd hz List.not_mem_nil, by decide, by decide, ab_w1408, by simp [ab_nw], rfl⟩
    · rw [if_neg h0]
      by_cases h1 : E = "java/util/NoSuchElementException"
      · subst h1
        refine ⟨fun h => ?_, fun ph h => ?_⟩
        · revert h; simp
        · have e : ph = 17 := by revert h; simp; exact fun h => h.symm
          subst e
          exact ⟨[⟨0, 10, 13, 57⟩], ⟨0, 10, 17, 76⟩, [], rfl, fun z hz => by rw [List.mem_singleton.mp hz]; exact Or.inr ⟨by decide, "java/lang/IndexOutOfBoundsException", ab_w1408, by decide⟩, by decide, by decide, ab_w1409, by simp [ab_nw], rfl⟩
      · rw [if_neg h1]
        exact ⟨fun h => (by cases h), fun ph h => (by cases h)⟩
  · rw [if_neg hp]
    exact ⟨fun h => (by cases h), fun ph h => (by cases h)⟩
theorem ab_hk36 : ab_HOK ab_g36 ab_hn36 := by
  intro pc E
  unfold ab_hn36
  by_cases hp : pc = 5
  · subst hp
    rw [if_pos rfl]
    by_cases h0 : E = "java/lang/IndexOutOfBoundsException"
    · subst h0
      refine ⟨fun h => ?_, fun ph h => ?_⟩
      · revert h; simp
      · have e : ph = 20 := by revert h; simp; exact fun h => h.symm
        subst e
        exact ⟨[], ⟨0, 17, 20, 57⟩, [], rfl, fun z hz => absurd hz List.not_mem_nil, by decide, by decide, ab_w1408, by simp [ab_nw], rfl⟩
    · rw [if_neg h0]
      exact ⟨fun h => (by cases h), fun ph h => (by cases h)⟩
  · rw [if_neg hp]
    exact ⟨fun h => (by cases h), fun ph h => (by cases h)⟩
theorem ab_hk38 : ab_HOK ab_g38 ab_hn38 := by
  intro pc E
  unfold ab_hn38
  by_cases hp : pc = 4
  · subst hp
    rw [if_pos rfl]
    by_cases h0 : E = "java/lang/IndexOutOfBoundsException"
    · subst h0
      refine ⟨fun h => ?_, fun ph h => ?_⟩
      · revert h; simp
      · have e : ph = 12 := by revert h; simp; exact fun h => h.symm
        subst e
        exact ⟨[], ⟨0, 9, 12, 57⟩, [], rfl, fun z hz => absurd hz List.not_mem_nil, by decide, by decide, ab_w1408, by simp [ab_nw], rfl⟩
    · rw [if_neg h0]
      exact ⟨fun h => (by cases h), fun ph h => (by cases h)⟩
  · rw [if_neg hp]
    exact ⟨fun h => (by cases h), fun ph h => (by cases h)⟩
theorem ab_hk40 : ab_HOK ab_g40 ab_hn40 := by
  intro pc E
  unfold ab_hn40
  by_cases hp : pc = 5
  · subst hp
    rw [if_pos rfl]
    by_cases h0 : E = "java/lang/IndexOutOfBoundsException"
    · subst h0
      refine ⟨fun h => ?_, fun ph h => ?_⟩
      · revert h; simp
      · have e : ph = 13 := by revert h; simp; exact fun h => h.symm
        subst e
        exact ⟨[], ⟨0, 10, 13, 57⟩, [], rfl, fun z hz => absurd hz List.not_mem_nil, by decide, by decide, ab_w1408, by simp [ab_nw], rfl⟩
    · rw [if_neg h0]
      exact ⟨fun h => (by cases h), fun ph h => (by cases h)⟩
  · rw [if_neg hp]
    exact ⟨fun h => (by cases h), fun ph h => (by cases h)⟩
theorem ab_hk42 : ab_HOK ab_g42 ab_hn42 := by
  intro pc E
  unfold ab_hn42
  by_cases hp : pc = 4
  · subst hp
    rw [if_pos rfl]
    by_cases h0 : E = "java/lang/IndexOutOfBoundsException"
    · subst h0
      refine ⟨fun h => ?_, fun ph h => ?_⟩
      · revert h; simp
      · have e : ph = 12 := by revert h; simp; exact fun h => h.symm
        subst e
        exact ⟨[], ⟨0, 9, 12, 57⟩, [], rfl, fun z hz => absurd hz List.not_mem_nil, by decide, by decide, ab_w1408, by simp [ab_nw], rfl⟩
    · rw [if_neg h0]
      exact ⟨fun h => (by cases h), fun ph h => (by cases h)⟩
  · rw [if_neg hp]
    exact ⟨fun h => (by cases h), fun ph h => (by cases h)⟩
theorem ab_hk44 : ab_HOK ab_g44 ab_hn44 := by
  intro pc E
  unfold ab_hn44
  by_cases hp : pc = 5
  · subst hp
    rw [if_pos rfl]
    by_cases h0 : E = "java/lang/IndexOutOfBoundsException"
    · subst h0
      refine ⟨fun h => ?_, fun ph h => ?_⟩
      · revert h; simp
      · have e : ph = 13 := by revert h; simp; exact fun h => h.symm
        subst e
        exact ⟨[], ⟨0, 10, 13, 57⟩, [⟨0, 10, 17, 76⟩], rfl, fun z hz => absurd hz List.not_mem_nil, by decide, by decide, ab_w1408, by simp [ab_nw], rfl⟩
    · rw [if_neg h0]
      by_cases h1 : E = "java/util/NoSuchElementException"
      · subst h1
        refine ⟨fun h => ?_, fun ph h => ?_⟩
        · revert h; simp
        · have e : ph = 17 := by revert h; simp; exact fun h => h.symm
          subst e
          exact ⟨[⟨0, 10, 13, 57⟩], ⟨0, 10, 17, 76⟩, [], rfl, fun z hz => by rw [List.mem_singleton.mp hz]; exact Or.inr ⟨by decide, "java/lang/IndexOutOfBoundsException", ab_w1408, by decide⟩, by decide, by decide, ab_w1409, by simp [ab_nw], rfl⟩
      · rw [if_neg h1]
        exact ⟨fun h => (by cases h), fun ph h => (by cases h)⟩
  · rw [if_neg hp]
    exact ⟨fun h => (by cases h), fun ph h => (by cases h)⟩
theorem ab_hk46 : ab_HOK ab_g46 ab_hn46 := by
  intro pc E
  unfold ab_hn46
  by_cases hp : pc = 4
  · subst hp
    rw [if_pos rfl]
    by_cases h0 : E = "java/lang/IndexOutOfBoundsException"
    · subst h0
      refine ⟨fun h => ?_, fun ph h => ?_⟩
      · revert h; simp
      · have e : ph = 12 := by revert h; simp; exact fun h => h.symm
        subst e
        exact ⟨[], ⟨0, 9, 12, 57⟩, [], rfl, fun z hz => absurd hz List.not_mem_nil, by decide, by decide, ab_w1408, by simp [ab_nw], rfl⟩
    · rw [if_neg h0]
      exact ⟨fun h => (by cases h), fun ph h => (by cases h)⟩
  · rw [if_neg hp]
    exact ⟨fun h => (by cases h), fun ph h => (by cases h)⟩
theorem ab_hk48 : ab_HOK ab_g48 ab_hn48 := by
  intro pc E
  unfold ab_hn48
  by_cases hp : pc = 4
  · subst hp
    rw [if_pos rfl]
    by_cases h0 : E = "java/lang/IndexOutOfBoundsException"
    · subst h0
      refine ⟨fun h => ?_, fun ph h => ?_⟩
      · revert h; simp
      · have e : ph = 12 := by revert h; simp; exact fun h => h.symm
        subst e
        exact ⟨[], ⟨0, 9, 12, 57⟩, [⟨0, 9, 15, 76⟩], rfl, fun z hz => absurd hz List.not_mem_nil, by decide, by decide, ab_w1408, by simp [ab_nw], rfl⟩
    · rw [if_neg h0]
      by_cases h1 : E = "java/util/NoSuchElementException"
      · subst h1
        refine ⟨fun h => ?_, fun ph h => ?_⟩
        · revert h; simp
        · have e : ph = 15 := by revert h; simp; exact fun h => h.symm
          subst e
          exact ⟨[⟨0, 9, 12, 57⟩], ⟨0, 9, 15, 76⟩, [], rfl, fun z hz => by rw [List.mem_singleton.mp hz]; exact Or.inr ⟨by decide, "java/lang/IndexOutOfBoundsException", ab_w1408, by decide⟩, by decide, by decide, ab_w1409, by simp [ab_nw], rfl⟩
      · rw [if_neg h1]
        exact ⟨fun h => (by cases h), fun ph h => (by cases h)⟩
  · rw [if_neg hp]
    exact ⟨fun h => (by cases h), fun ph h => (by cases h)⟩
theorem ab_hk50 : ab_HOK ab_g50 ab_hn50 := by
  intro pc E
  unfold ab_hn50
  by_cases hp : pc = 4
  · subst hp
    rw [if_pos rfl]
    by_cases h0 : E = "java/lang/IndexOutOfBoundsException"
    · subst h0
      refine ⟨fun h => ?_, fun ph h => ?_⟩
      · revert h; simp
      · have e : ph = 12 := by revert h; simp; exact fun h => h.symm
        subst e
        exact ⟨[], ⟨0, 9, 12, 57⟩, [], rfl, fun z hz => absurd hz List.not_mem_nil, by decide, by decide, ab_w1408, by simp [ab_nw], rfl⟩
    · rw [if_neg h0]
      exact ⟨fun h => (by cases h), fun ph h => (by cases h)⟩
  · rw [if_neg hp]
    exact ⟨fun h => (by cases h), fun ph h => (by cases h)⟩
theorem ab_hk52 : ab_HOK ab_g52 ab_hn52 := by
  intro pc E
  unfold ab_hn52
  by_cases hp : pc = 4
  · subst hp
    rw [if_pos rfl]
    by_cases h0 : E = "java/lang/IndexOutOfBoundsException"
    · subst h0
      refine ⟨fun h => ?_, fun ph h => ?_⟩
      · revert h; simp
      · have e : ph = 12 := by revert h; simp; exact fun h => h.symm
        subst e
        exact ⟨[], ⟨0, 9, 12, 57⟩, [], rfl, fun z hz => absurd hz List.not_mem_nil, by decide, by decide, ab_w1408, by simp [ab_nw], rfl⟩
    · rw [if_neg h0]
      exact ⟨fun h => (by cases h), fun ph h => (by cases h)⟩
  · rw [if_neg hp]
    exact ⟨fun h => (by cases h), fun ph h => (by cases h)⟩
theorem ab_hk54 : ab_HOK ab_g54 ab_hn54 := by
  intro pc E
  unfold ab_hn54
  by_cases hp : pc = 5
  · subst hp
    rw [if_pos rfl]
    by_cases h0 : E = "java/lang/IndexOutOfBoundsException"
    · subst h0
      refine ⟨fun h => ?_, fun ph h => ?_⟩
      · revert h; simp
      · have e : ph = 13 := by revert h; simp; exact fun h => h.symm
        subst e
        exact ⟨[], ⟨0, 10, 13, 57⟩, [], rfl, fun z hz => absurd hz List.not_mem_nil, by decide, by decide, ab_w1408, by simp [ab_nw], rfl⟩
    · rw [if_neg h0]
      exact ⟨fun h => (by cases h), fun ph h => (by cases h)⟩
  · rw [if_neg hp]
    exact ⟨fun h => (by cases h), fun ph h => (by cases h)⟩
theorem ab_hk56 : ab_HOK ab_g56 ab_hn56 := by
  intro pc E
  unfold ab_hn56
  by_cases hp : pc = 7
  · subst hp
    rw [if_pos rfl]
    by_cases h0 : E = "java/lang/IndexOutOfBoundsException"
    · subst h0
      refine ⟨fun h => ?_, fun ph h => ?_⟩
      · revert h; simp
      · have e : ph = 15 := by revert h; simp; exact fun h => h.symm
        subst e
        exact ⟨[], ⟨0, 12, 15, 57⟩, [⟨0, 12, 19, 59⟩], rfl, fun z hz => absurd hz List.not_mem_nil, by decide, by decide, ab_w1408, by simp [ab_nw], rfl⟩
    · rw [if_neg h0]
      by_cases h1 : E = "java/lang/IllegalArgumentException"
      · subst h1
        refine ⟨fun h => ?_, fun ph h => ?_⟩
        · revert h; simp
        · have e : ph = 19 := by revert h; simp; exact fun h => h.symm
          subst e
          exact ⟨[⟨0, 12, 15, 57⟩], ⟨0, 12, 19, 59⟩, [], rfl, fun z hz => by rw [List.mem_singleton.mp hz]; exact Or.inr ⟨by decide, "java/lang/IndexOutOfBoundsException", ab_w1408, by decide⟩, by decide, by decide, ab_w1406, by simp [ab_nw], rfl⟩
      · rw [if_neg h1]
        exact ⟨fun h => (by cases h), fun ph h => (by cases h)⟩
  · rw [if_neg hp]
    exact ⟨fun h => (by cases h), fun ph h => (by cases h)⟩
theorem ab_hk58 : ab_HOK ab_g58 ab_hn58 := by
  intro pc E
  unfold ab_hn58
  by_cases hp : pc = 5
  · subst hp
    rw [if_pos rfl]
    by_cases h0 : E = "java/lang/IndexOutOfBoundsException"
    · subst h0
      refine ⟨fun h => ?_, fun ph h => ?_⟩
      · revert h; simp
      · have e : ph = 13 := by revert h; simp; exact fun h => h.symm
        subst e
        exact ⟨[], ⟨0, 10, 13, 57⟩, [⟨0, 10, 17, 59⟩], rfl, fun z hz => absurd hz List.not_mem_nil, by decide, by decide, ab_w1408, by simp [ab_nw], rfl⟩
    · rw [if_neg h0]
      by_cases h1 : E = "java/lang/IllegalArgumentException"
      · subst h1
        refine ⟨fun h => ?_, fun ph h => ?_⟩
        · revert h; simp
        · have e : ph = 17 := by revert h; simp; exact fun h => h.symm
          subst e
          exact ⟨[⟨0, 10, 13, 57⟩], ⟨0, 10, 17, 59⟩, [], rfl, fun z hz => by rw [List.mem_singleton.mp hz]; exact Or.inr ⟨by decide, "java/lang/IndexOutOfBoundsException", ab_w1408, by decide⟩, by decide, by decide, ab_w1406, by simp [ab_nw], rfl⟩
      · rw [if_neg h1]
        exact ⟨fun h => (by cases h), fun ph h => (by cases h)⟩
  · rw [if_neg hp]
    exact ⟨fun h => (by cases h), fun ph h => (by cases h)⟩
theorem ab_hk60 : ab_HOK ab_g60 ab_hn60 := by
  intro pc E
  unfold ab_hn60
  by_cases hp : pc = 4
  · subst hp
    rw [if_pos rfl]
    by_cases h0 : E = "java/lang/UnsupportedOperationException"
    · subst h0
      refine ⟨fun h => ?_, fun ph h => ?_⟩
      · revert h; simp
      · have e : ph = 12 := by revert h; simp; exact fun h => h.symm
        subst e
        exact ⟨[], ⟨0, 9, 12, 13⟩, [], rfl, fun z hz => absurd hz List.not_mem_nil, by decide, by decide, ab_w1410, by simp [ab_nw], rfl⟩
    · rw [if_neg h0]
      exact ⟨fun h => (by cases h), fun ph h => (by cases h)⟩
  · rw [if_neg hp]
    exact ⟨fun h => (by cases h), fun ph h => (by cases h)⟩
theorem ab_hk62 : ab_HOK ab_g62 ab_hn62 := by
  intro pc E
  unfold ab_hn62
  by_cases hp : pc = 4
  · subst hp
    rw [if_pos rfl]
    by_cases h0 : E = "java/lang/UnsupportedOperationException"
    · subst h0
      refine ⟨fun h => ?_, fun ph h => ?_⟩
      · revert h; simp
      · have e : ph = 12 := by revert h; simp; exact fun h => h.symm
        subst e
        exact ⟨[], ⟨0, 9, 12, 13⟩, [], rfl, fun z hz => absurd hz List.not_mem_nil, by decide, by decide, ab_w1410, by simp [ab_nw], rfl⟩
    · rw [if_neg h0]
      exact ⟨fun h => (by cases h), fun ph h => (by cases h)⟩
  · rw [if_neg hp]
    exact ⟨fun h => (by cases h), fun ph h => (by cases h)⟩
theorem ab_hk64 : ab_HOK ab_g64 ab_hn64 := by
  intro pc E
  unfold ab_hn64
  by_cases hp : pc = 5
  · subst hp
    rw [if_pos rfl]
    by_cases h0 : E = "java/lang/UnsupportedOperationException"
    · subst h0
      refine ⟨fun h => ?_, fun ph h => ?_⟩
      · revert h; simp
      · have e : ph = 13 := by revert h; simp; exact fun h => h.symm
        subst e
        exact ⟨[], ⟨0, 10, 13, 13⟩, [], rfl, fun z hz => absurd hz List.not_mem_nil, by decide, by decide, ab_w1410, by simp [ab_nw], rfl⟩
    · rw [if_neg h0]
      exact ⟨fun h => (by cases h), fun ph h => (by cases h)⟩
  · rw [if_neg hp]
    exact ⟨fun h => (by cases h), fun ph h => (by cases h)⟩
theorem ab_hk66 : ab_HOK ab_g66 ab_hn66 := by
  intro pc E
  unfold ab_hn66
  by_cases hp : pc = 4
  · subst hp
    rw [if_pos rfl]
    by_cases h0 : E = "java/lang/UnsupportedOperationException"
    · subst h0
      refine ⟨fun h => ?_, fun ph h => ?_⟩
      · revert h; simp
      · have e : ph = 12 := by revert h; simp; exact fun h => h.symm
        subst e
        exact ⟨[], ⟨0, 9, 12, 13⟩, [], rfl, fun z hz => absurd hz List.not_mem_nil, by decide, by decide, ab_w1410, by simp [ab_nw], rfl⟩
    · rw [if_neg h0]
      exact ⟨fun h => (by cases h), fun ph h => (by cases h)⟩
  · rw [if_neg hp]
    exact ⟨fun h => (by cases h), fun ph h => (by cases h)⟩
theorem ab_hk68 : ab_HOK ab_g68 ab_hn68 := by
  intro pc E
  unfold ab_hn68
  by_cases hp : pc = 5
  · subst hp
    rw [if_pos rfl]
    by_cases h0 : E = "java/lang/UnsupportedOperationException"
    · subst h0
      refine ⟨fun h => ?_, fun ph h => ?_⟩
      · revert h; simp
      · have e : ph = 13 := by revert h; simp; exact fun h => h.symm
        subst e
        exact ⟨[], ⟨0, 10, 13, 13⟩, [], rfl, fun z hz => absurd hz List.not_mem_nil, by decide, by decide, ab_w1410, by simp [ab_nw], rfl⟩
    · rw [if_neg h0]
      exact ⟨fun h => (by cases h), fun ph h => (by cases h)⟩
  · rw [if_neg hp]
    exact ⟨fun h => (by cases h), fun ph h => (by cases h)⟩
theorem ab_hk70 : ab_HOK ab_g70 ab_hn70 := by
  intro pc E
  unfold ab_hn70
  by_cases hp : pc = 5
  · subst hp
    rw [if_pos rfl]
    by_cases h0 : E = "java/lang/UnsupportedOperationException"
    · subst h0
      refine ⟨fun h => ?_, fun ph h => ?_⟩
      · revert h; simp
      · have e : ph = 13 := by revert h; simp; exact fun h => h.symm
        subst e
        exact ⟨[], ⟨0, 10, 13, 13⟩, [], rfl, fun z hz => absurd hz List.not_mem_nil, by decide, by decide, ab_w1410, by simp [ab_nw], rfl⟩
    · rw [if_neg h0]
      exact ⟨fun h => (by cases h), fun ph h => (by cases h)⟩
  · rw [if_neg hp]
    exact ⟨fun h => (by cases h), fun ph h => (by cases h)⟩
theorem ab_hk72 : ab_HOK ab_g72 ab_hn72 := by
  intro pc E
  unfold ab_hn72
  by_cases hp : pc = 4
  · subst hp
    rw [if_pos rfl]
    by_cases h0 : E = "java/lang/UnsupportedOperationException"
    · subst h0
      refine ⟨fun h => ?_, fun ph h => ?_⟩
      · revert h; simp
      · have e : ph = 12 := by revert h; simp; exact fun h => h.symm
        subst e
        exact ⟨[], ⟨0, 9, 12, 13⟩, [], rfl, fun z hz => absurd hz List.not_mem_nil, by decide, by decide, ab_w1410, by simp [ab_nw], rfl⟩
    · rw [if_neg h0]
      exact ⟨fun h => (by cases h), fun ph h => (by cases h)⟩
  · rw [if_neg hp]
    exact ⟨fun h => (by cases h), fun ph h => (by cases h)⟩
theorem ab_hk74 : ab_HOK ab_g74 ab_hn74 := by
  intro pc E
  unfold ab_hn74
  by_cases hp : pc = 4
  · subst hp
    rw [if_pos rfl]
    by_cases h0 : E = "java/lang/UnsupportedOperationException"
    · subst h0
      refine ⟨fun h => ?_, fun ph h => ?_⟩
      · revert h; simp
      · have e : ph = 12 := by revert h; simp; exact fun h => h.symm
        subst e
        exact ⟨[], ⟨0, 9, 12, 13⟩, [], rfl, fun z hz => absurd hz List.not_mem_nil, by decide, by decide, ab_w1410, by simp [ab_nw], rfl⟩
    · rw [if_neg h0]
      exact ⟨fun h => (by cases h), fun ph h => (by cases h)⟩
  · rw [if_neg hp]
    exact ⟨fun h => (by cases h), fun ph h => (by cases h)⟩
theorem ab_hk76 : ab_HOK ab_g76 ab_hn76 := by
  intro pc E
  unfold ab_hn76
  by_cases hp : pc = 4
  · subst hp
    rw [if_pos rfl]
    by_cases h0 : E = "java/lang/UnsupportedOperationException"
    · subst h0
      refine ⟨fun h => ?_, fun ph h => ?_⟩
      · revert h; simp
      · have e : ph = 12 := by revert h; simp; exact fun h => h.symm
        subst e
        exact ⟨[], ⟨0, 9, 12, 13⟩, [], rfl, fun z hz => absurd hz List.not_mem_nil, by decide, by decide, ab_w1410, by simp [ab_nw], rfl⟩
    · rw [if_neg h0]
      exact ⟨fun h => (by cases h), fun ph h => (by cases h)⟩
  · rw [if_neg hp]
    exact ⟨fun h => (by cases h), fun ph h => (by cases h)⟩
theorem ab_hk78 : ab_HOK ab_g78 ab_hn78 := by
  intro pc E
  unfold ab_hn78
  by_cases hp : pc = 5
  · subst hp
    rw [if_pos rfl]
    by_cases h0 : E = "java/lang/UnsupportedOperationException"
    · subst h0
      refine ⟨fun h => ?_, fun ph h => ?_⟩
      · revert h; simp
      · have e : ph = 13 := by revert h; simp; exact fun h => h.symm
        subst e
        exact ⟨[], ⟨0, 10, 13, 13⟩, [], rfl, fun z hz => absurd hz List.not_mem_nil, by decide, by decide, ab_w1410, by simp [ab_nw], rfl⟩
    · rw [if_neg h0]
      exact ⟨fun h => (by cases h), fun ph h => (by cases h)⟩
  · rw [if_neg hp]
    exact ⟨fun h => (by cases h), fun ph h => (by cases h)⟩
theorem ab_hk80 : ab_HOK ab_g80 ab_hn80 := by
  intro pc E
  unfold ab_hn80
  by_cases hp : pc = 7
  · subst hp
    rw [if_pos rfl]
    by_cases h0 : E = "java/lang/UnsupportedOperationException"
    · subst h0
      refine ⟨fun h => ?_, fun ph h => ?_⟩
      · revert h; simp
      · have e : ph = 15 := by revert h; simp; exact fun h => h.symm
        subst e
        exact ⟨[], ⟨0, 12, 15, 13⟩, [], rfl, fun z hz => absurd hz List.not_mem_nil, by decide, by decide, ab_w1410, by simp [ab_nw], rfl⟩
    · rw [if_neg h0]
      exact ⟨fun h => (by cases h), fun ph h => (by cases h)⟩
  · rw [if_neg hp]
    exact ⟨fun h => (by cases h), fun ph h => (by cases h)⟩
theorem ab_hk82 : ab_HOK ab_g82 ab_hn82 := by
  intro pc E
  unfold ab_hn82
  by_cases hp : pc = 9
  · subst hp
    rw [if_pos rfl]
    by_cases h0 : E = "java/lang/UnsupportedOperationException"
    · subst h0
      refine ⟨fun h => ?_, fun ph h => ?_⟩
      · revert h; simp
      · have e : ph = 17 := by revert h; simp; exact fun h => h.symm
        subst e
        exact ⟨[], ⟨0, 14, 17, 13⟩, [], rfl, fun z hz => absurd hz List.not_mem_nil, by decide, by decide, ab_w1410, by simp [ab_nw], rfl⟩
    · rw [if_neg h0]
      exact ⟨fun h => (by cases h), fun ph h => (by cases h)⟩
  · rw [if_neg hp]
    exact ⟨fun h => (by cases h), fun ph h => (by cases h)⟩
theorem ab_hk84 : ab_HOK ab_g84 ab_hn84 := by
  intro pc E
  unfold ab_hn84
  by_cases hp : pc = 5
  · subst hp
    rw [if_pos rfl]
    by_cases h0 : E = "java/lang/UnsupportedOperationException"
    · subst h0
      refine ⟨fun h => ?_, fun ph h => ?_⟩
      · revert h; simp
      · have e : ph = 13 := by revert h; simp; exact fun h => h.symm
        subst e
        exact ⟨[], ⟨0, 10, 13, 13⟩, [], rfl, fun z hz => absurd hz List.not_mem_nil, by decide, by decide, ab_w1410, by simp [ab_nw], rfl⟩
    · rw [if_neg h0]
      exact ⟨fun h => (by cases h), fun ph h => (by cases h)⟩
  · rw [if_neg hp]
    exact ⟨fun h => (by cases h), fun ph h => (by cases h)⟩
theorem ab_hk_none {G : ab_M} (h : G.2.2.2.2.1 = []) : ab_HOK G (fun _ _ => some none) := fun _ _ => ⟨fun _ => h, fun ph h => by cases h⟩
def ab_all2 {α β : Type} (Q : α → β → Prop) : List α → List β → Prop
  | [], [] => True
  | a :: l, b :: m => Q a b ∧ ab_all2 Q l m
  | _, _ => False
theorem ab_getD2 {α β : Type} {Q : α → β → Prop} : ∀ {l1 : List α} {l2 : List β} {a : α} {b : β}, ab_all2 Q l1 l2 → Q a b → ∀ M, Q (l1.getD M a) (l2.getD M b)
  | [], [], _, _, _, h, _ => h
  | [], _ :: _, _, _, hq, _, _ => hq.elim
  | _ :: _, [], _, _, hq, _, _ => hq.elim
  | _ :: _, _ :: _, _, _, hq, _, 0 => hq.1
  | _ :: _, _ :: _, _, _, hq, h, M + 1 => ab_getD2 hq.2 h M
set_option maxRecDepth 40000 in
theorem ab_allk (K : ab_Kt) : ab_all2 (fun G (c : Nat → ab_Op) => ∀ pc, ab_OK K ab_mt G pc (c pc)) ab_mtl (ab_pl9 K) := And.intro (ab_k0 K) (And.intro (ab_k1 K) (And.intro (ab_k2 K) (And.intro (ab_k3 K) (And.intro (ab_k4 K) (And.intro (ab_k5 K) (And.intro (ab_k6 K) (And.intro (ab_k7 K) (And.intro (ab_k8 K) (And.intro (ab_k9 K) (And.intro (ab_k10 K) (And.intro (ab_k11 K) (And.intro (ab_k12 K) (And.intro (ab_k13 K) (And.intro (ab_k14 K) (And.intro (ab_k15 K) (And.intro (ab_k16 K) (And.intro (ab_k17 K) (And.intro (ab_k18 K) (And.intro (ab_k19 K) (And.intro (ab_k20 K) (And.intro (ab_k21 K) (And.intro (ab_k22 K) (And.intro (ab_k23 K) (And.intro (ab_k24 K) (And.intro (ab_k25 K) (And.intro (ab_k26 K) (And.intro (ab_k27 K) (And.intro (ab_k28 K) (And.intro (ab_k29 K) (And.intro (ab_k30 K) (And.intro (ab_k31 K) (And.intro (ab_k32 K) (And.intro (ab_k33 K) (And.intro (ab_k34 K) (And.intro (ab_k35 K) (And.intro (ab_k36 K) (And.intro (ab_k37 K) (And.intro (ab_k38 K) (And.intro (ab_k39 K) (And.intro (ab_k40 K) (And.intro (ab_k41 K) (And.intro (ab_k42 K) (And.intro (ab_k43 K) (And.intro (ab_k44 K) (And.intro (ab_k45 K) (And.intro (ab_k46 K) (And.intro (ab_k47 K) (And.intro (ab_k48 K) (And.intro (ab_k49 K) (And.intro (ab_k50 K) (And.intro (ab_k51 K) (And.intro (ab_k52 K) (And.intro (ab_k53 K) (And.intro (ab_k54 K) (And.intro (ab_k55 K) (And.intro (ab_k56 K) (And.intro (ab_k57 K) (And.intro (ab_k58 K) (And.intro (ab_k59 K) (And.intro (ab_k60 K) (And.intro (ab_k61 K) (And.intro (ab_k62 K) (And.intro (ab_k63 K) (And.intro (ab_k64 K) (And.intro (ab_k65 K) (And.intro (ab_k66 K) (And.intro (ab_k67 K) (And.intro (ab_k68 K) (And.intro (ab_k69 K) (And.intro (ab_k70 K) (And.intro (ab_k71 K) (And.intro (ab_k72 K) (And.intro (ab_k73 K) (And.intro (ab_k74 K) (And.intro (ab_k75 K) (And.intro (ab_k76 K) (And.intro (ab_k77 K) (And.intro (ab_k78 K) (And.intro (ab_k79 K) (And.intro (ab_k80 K) (And.intro (ab_k81 K) (And.intro (ab_k82 K) (And.intro (ab_k83 K) (And.intro (ab_k84 K) (And.intro (ab_k85 K) (And.intro (ab_k86 K) (And.intro (ab_k87 K) (And.intro (ab_k88 K) (And.intro (ab_k89 K) (And.intro (ab_k90 K) (And.intro (ab_k91 K) (And.intro (ab_k92 K) (And.intro (ab_k93 K) (And.intro (ab_k94 K) (And.intro (ab_k95 K) (And.intro (ab_k96 K) (And.intro (ab_k97 K) (And.intro (ab_k98 K) (And.intro (ab_k99 K) (And.intro (ab_k100 K) (And.intro (ab_k101 K) (And.intro (ab_k102 K) (And.intro (ab_k103 K) (And.intro (ab_k104 K) (And.intro (ab_k105 K) (And.intro (ab_k106 K) (And.intro (ab_k107 K) (And.intro (ab_k108 K) (And.intro (ab_k109 K) (And.intro (ab_k110 K) (And.intro (ab_k111 K) (And.intro (ab_k112 K) (And.intro (ab_k113 K) (And.intro (ab_k114 K) (And.intro (ab_k115 K) (And.intro (ab_k116 K) (And.intro (ab_k117 K) (And.intro (ab_k118 K) (And.intro (ab_k119 K) (And.intro (ab_k120 K) (And.intro (ab_k121 K) (And.intro (ab_k122 K) (And.intro (ab_k123 K) (And.intro (ab_k124 K) (And.intro (ab_k125 K) (And.intro (ab_k126 K) (And.intro (ab_k127 K) (And.intro (ab_k128 K) (And.intro (ab_k129 K) (And.intro (ab_k130 K) (And.intro (ab_k131 K) (And.intro (ab_k132 K) (And.intro (ab_k133 K) (And.intro (ab_k134 K) (And.intro (ab_k135 K) (And.intro (ab_k136 K) (And.intro (ab_k137 K) (And.intro (ab_k138 K) (And.intro (ab_k139 K) (And.intro (ab_k140 K) (And.intro (ab_k141 K) (And.intro (ab_k142 K) (And.intro (ab_k143 K) (And.intro (ab_k144 K) (And.intro (ab_k145 K) (And.intro (ab_k146 K) (And.intro (ab_k147 K) (And.intro (ab_k148 K) (And.intro (ab_k149 K) (And.intro (ab_k150 K) (And.intro (ab_k151 K) (And.intro (ab_k152 K) (And.intro (ab_k153 K) (And.intro (ab_k154 K) (And.intro (ab_k155 K) (And.intro (ab_k156 K) (And.intro (ab_k157 K) (And.intro (ab_k158 K) (And.intro (ab_k159 K) (And.intro (ab_k160 K) (And.intro (ab_k161 K) (And.intro (ab_k162 K) (And.intro (ab_k163 K) (And.intro (ab_k164 K) (And.intro (ab_k165 K) (And.intro (ab_k166 K) (And.intro (ab_k167 K) (And.intro (ab_k168 K) (And.intro (ab_k169 K) (And.intro (ab_k170 K) (And.intro (ab_k171 K) (And.intro (ab_k172 K) (And.intro (ab_k173 K) (And.intro (ab_k174 K) (And.intro (ab_k175 K) (And.intro (ab_k176 K) (And.intro (ab_k177 K) (And.intro (ab_k178 K) (And.intro (ab_k179 K) (And.intro (ab_k180 K) (And.intro (ab_k181 K) (And.intro (ab_k182 K) (And.intro (ab_k183 K) (And.intro (ab_k184 K) (And.intro (ab_k185 K) (And.intro (ab_k186 K) (And.intro (ab_k187 K) (And.intro (ab_k188 K) (And.intro (ab_k189 K) (And.intro (ab_k190 K) (And.intro (ab_k191 K) (And.intro (ab_k192 K) (And.intro (ab_k193 K) (And.intro (ab_k194 K) (And.intro (ab_k195 K) (And.intro (ab_k196 K) (And.intro (ab_k197 K) (And.intro (ab_k198 K) (And.intro (ab_k199 K) (And.intro (ab_k200 K) (And.intro (ab_k201 K) (And.intro (ab_k202 K) (And.intro (ab_k203 K) (And.intro (ab_k204 K) (And.intro (ab_k205 K) (And.intro (ab_k206 K) (And.intro (ab_k207 K) (And.intro (ab_k208 K) (And.intro (ab_k209 K) (And.intro (ab_k210 K) (And.intro (ab_k211 K) (And.intro (ab_k212 K) (And.intro (ab_k213 K) (And.intro (ab_k214 K) (And.intro (ab_k215 K) (And.intro (ab_k216 K) (And.intro (ab_k217 K) (And.intro (ab_k218 K) (And.intro (ab_k219 K) (And.intro (ab_k220 K) (And.intro (ab_k221 K) (And.intro (ab_k222 K) (And.intro (ab_k223 K) (And.intro (ab_k224 K) (And.intro (ab_k225 K) (And.intro (ab_k226 K) (And.intro (ab_k227 K) (And.intro (ab_k228 K) (And.intro (ab_k229 K) (And.intro (ab_k230 K) (And.intro (ab_k231 K) (And.intro (ab_k232 K) (And.intro (ab_k233 K) (And.intro (ab_k234 K) (And.intro (ab_k235 K) (And.intro (ab_k236 K) (And.intro (ab_k237 K) (And.intro (ab_k238 K) (And.intro (ab_k239 K) (And.intro (ab_k240 K) (And.intro (ab_k241 K) (And.intro (ab_k242 K) (And.intro (ab_k243 K) (And.intro (ab_k244 K) (And.intro (ab_k245 K) (And.intro (ab_k246 K) (And.intro (ab_k247 K) (And.intro (ab_k248 K) (And.intro (ab_k249 K) (And.intro (ab_k250 K) (And.intro (ab_k251 K) (And.intro (ab_k252 K) (And.intro (ab_k253 K) (And.intro (ab_k254 K) (And.intro (ab_k255 K) (And.intro (ab_k256 K) (And.intro (ab_k257 K) (And.intro (ab_k258 K) (And.intro (ab_k259 K) (And.intro (ab_k260 K) (And.intro (ab_k261 K) (And.intro (ab_k262 K) (And.intro (ab_k263 K) (And.intro (ab_k264 K) (And.intro (ab_k265 K) (And.intro (ab_k266 K) (And.intro (ab_k267 K) (And.intro (ab_k268 K) (And.intro (ab_k269 K) (And.intro (ab_k270 K) (And.intro (ab_k271 K) (And.intro (ab_k272 K) (And.intro (ab_k273 K) (And.intro (ab_k274 K) (And.intro (ab_k275 K) (And.intro (ab_k276 K) (And.intro (ab_k277 K) (And.intro (ab_k278 K) (And.intro (ab_k279 K) (And.intro (ab_k280 K) (And.intro (ab_k281 K) (And.intro (ab_k282 K) (And.intro (ab_k283 K) (And.intro (ab_k284 K) (trivial)))))))))))))))))))))))))))))))))))))))))))))))))))))))))))))))))))))))))))))))))))))))))))))))))))))))))))))))))))))))))))))))))))))))))))))))))))))))))))))))))))))))))))))))))))))))))))))))))))))))))))))))))))))))))))))))))))))))))))))))))))))))))))))))))))))))))))))))))))))))))))))
set_option maxRecDepth 40000 in
theorem ab_allh : ab_all2 (fun G (c : Nat → String → Option (Option Nat)) => ab_HOK G c) ab_mtl ab_hnl := And.intro (ab_hk_none rfl) (And.intro (ab_hk_none rfl) (And.intro (ab_hk_none rfl) (And.intro (ab_hk3) (And.intro (ab_hk_none rfl) (And.intro (ab_hk_none rfl) (And.intro (ab_hk_none rfl) (And.intro (ab_hk_none rfl) (And.intro (ab_hk8) (And.intro (ab_hk_none rfl) (And.intro (ab_hk10) (And.intro (ab_hk_none rfl) (And.intro (ab_hk12) (And.intro (ab_hk_none rfl) (And.intro (ab_hk14) (And.intro (ab_hk_none rfl) (And.intro (ab_hk16) (And.intro (ab_hk_none rfl) (And.intro (ab_hk18) (And.intro (ab_hk_none rfl) (And.intro (ab_hk20) (And.intro (ab_hk_none rfl) (And.intro (ab_hk_none rfl) (And.intro (ab_hk_none rfl) (And.intro (ab_hk24) (And.intro (ab_hk_none rfl) (And.intro (ab_hk26) (And.intro (ab_hk_none rfl) (And.intro (ab_hk28) (And.intro (ab_hk_none rfl) (And.intro (ab_hk30) (And.intro (ab_hk_none rfl) (And.intro (ab_hk32) (And.intro (ab_hk_none rfl) (And.intro (ab_hk34) (And.intro (ab_hk_none rfl) (And.intro (ab_hk36) (And.intro (ab_hk_none rfl) (And.intro (ab_hk38) (And.intro (ab_hk_none rfl) (And.intro (ab_hk40) (And.intro (ab_hk_none rfl) (And.intro (ab_hk42) (And.intro (ab_hk_none rfl) (And.intro (ab_hk44) (And.intro (ab_hk_none rfl) (And.intro (ab_hk46) (And.intro (ab_hk_none rfl) (And.intro (ab_hk48) (And.intro (ab_hk_none rfl) (And.intro (ab_hk50) (And.intro (ab_hk_none rfl) (And.intro (ab_hk52) (And.intro (ab_hk_none rfl) (And.intro (ab_hk54) (And.intro (ab_hk_none rfl) (And.intro (ab_hk56) (And.intro (ab_hk_none rfl) (And.intro (ab_hk58) (And.intro (ab_hk_none rfl) (And.intro (ab_hk60) (And.intro (ab_hk_none rfl) (And.intro (ab_hk62) (And.intro (ab_hk_none rfl) (And.intro (ab_hk64) (And.intro (ab_hk_none rfl) (And.intro (ab_hk66) (And.intro (ab_hk_none rfl) (And.intro (ab_hk68) (And.intro (ab_hk_none rfl) (And.intro (ab_hk70) (And.intro (ab_hk_none rfl) (And.intro (ab_hk72) (And.intro (ab_hk_none rfl) (And.intro (ab_hk74) (And.intro (ab_hk_none rfl) (And.intro (ab_hk76) (And.intro (ab_hk_none rfl) (And.intro (ab_hk78) (And.intro (ab_hk_none rfl) (And.intro (ab_hk80) (And.intro (ab_hk_none rfl) (And.intro (ab_hk82) (And.intro (ab_hk_none rfl) (And.intro (ab_hk84) (And.intro (ab_hk_none rfl) (And.intro (ab_hk_none rfl) (And.intro (ab_hk_none rfl) (And.intro (ab_hk_none rfl) (And.intro (ab_hk_none rfl) (And.intro (ab_hk_none rfl) (And.intro (ab_hk_none rfl) (And.intro (ab_hk_none rfl) (And.intro (ab_hk_none rfl) (And.intro (ab_hk_none rfl) (And.intro (ab_hk_none rfl) (And.intro (ab_hk_none rfl) (And.intro (ab_hk_none rfl) (And.intro (ab_hk_none rfl) (And.intro (ab_hk_none rfl) (And.intro (ab_hk_none rfl) (And.intro (ab_hk_none rfl) (And.intro (ab_hk_none rfl) (And.intro (ab_hk_none rfl) (And.intro (ab_hk_none rfl) (And.intro (ab_hk_none rfl) (And.intro (ab_hk_none rfl) (And.intro (ab_hk_none rfl) (And.intro (ab_hk_none rfl) (And.intro (ab_hk_none rfl) (And.intro (ab_hk_none rfl) (And.intro (ab_hk_none rfl) (And.intro (ab_hk_none rfl) (And.intro (ab_hk_none rfl) (And.intro (ab_hk_none rfl) (And.intro (ab_hk_none rfl) (And.intro (ab_hk_none rfl) (And.intro (ab_hk_none rfl) (And.intro (ab_hk_none rfl) (And.intro (ab_hk_none rfl) (And.intro (ab_hk_none rfl) (And.intro (ab_hk_none rfl) (And.intro (ab_hk_none rfl) (And.intro (ab_hk_none rfl) (And.intro (ab_hk_none rfl) (And.intro (ab_hk_none rfl) (And.intro (ab_hk_none rfl) (And.intro (ab_hk_none rfl) (And.intro (ab_hk_none rfl) (And.intro (ab_hk_none rfl) (And.intro (ab_hk_none rfl) (And.intro (ab_hk_none rfl) (And.intro (ab_hk_none rfl) (And.intro (ab_hk_none rfl) (And.intro (ab_hk_none rfl) (And.intro (ab_hk_none rfl) (And.intro (ab_hk_none rfl) (And.intro (ab_hk_none rfl) (And.intro (ab_hk_none rfl) (And.intro (ab_hk_none rfl) (And.intro (ab_hk_none rfl) (And.intro (ab_hk_none rfl) (And.intro (ab_hk_none rfl) (And.intro (ab_hk_none rfl) (And.intro (ab_hk_none rfl) (And.intro (ab_hk_none rfl) (And.intro (ab_hk_none rfl) (And.intro (ab_hk_none rfl) (And.intro (ab_hk_none rfl) (And.intro (ab_hk_none rfl) (And.intro (ab_hk_none rfl) (And.intro (ab_hk_none rfl) (And.intro (ab_hk_none rfl) (And.intro (ab_hk_none rfl) (And.intro (ab_hk_none rfl) (And.intro (ab_hk_none rfl) (And.intro (ab_hk_none rfl) (And.intro (ab_hk_none rfl) (And.intro (ab_hk_none rfl) (And.intro (ab_hk_none rfl) (And.intro (ab_hk_none rfl) (And.intro (ab_hk_none rfl) (And.intro (ab_hk_none rfl) (And.intro (ab_hk_none rfl) (And.intro (ab_hk_none rfl) (And.intro (ab_hk_none rfl) (And.intro (ab_hk_none rfl) (And.intro (ab_hk_none rfl) (And.intro (ab_hk_none rfl) (And.intro (ab_hk_none rfl) (And.intro (ab_hk_none rfl) (And.intro (ab_hk_none rfl) (And.intro (ab_hk_none rfl) (And.intro (ab_hk_none rfl) (And.intro (ab_hk_none rfl) (And.intro (ab_hk_none rfl) (And.intro (ab_hk_none rfl) (And.intro (ab_hk_none rfl) (And.intro (ab_hk_none rfl) (And.intro (ab_hk_none rfl) (And.intro (ab_hk_none rfl) (And.intro (ab_hk_none rfl) (And.intro (ab_hk_none rfl) (And.intro (ab_hk_none rfl) (And.intro (ab_hk_none rfl) (And.intro (ab_hk_none rfl) (And.intro (ab_hk_none rfl) (And.intro (ab_hk_none rfl) (And.intro (ab_hk_none rfl) (And.intro (ab_hk_none rfl) (And.intro (ab_hk_none rfl) (And.intro (ab_hk_none rfl) (And.intro (ab_hk_none rfl) (And.intro (ab_hk_none rfl) (And.intro (ab_hk_none rfl) (And.intro (ab_hk_none rfl) (And.intro (ab_hk_none rfl) (And.intro (ab_hk_none rfl) (And.intro (ab_hk_none rfl) (And.intro (ab_hk_none rfl) (And.intro (ab_hk_none rfl) (And.intro (ab_hk_none rfl) (And.intro (ab_hk_none rfl) (And.intro (ab_hk_none rfl) (And.intro (ab_hk_none rfl) (And.intro (ab_hk_none rfl) (And.intro (ab_hk_none rfl) (And.intro (ab_hk_none rfl) (And.intro (ab_hk_none rfl) (And.intro (ab_hk_none rfl) (And.intro (ab_hk_none rfl) (And.intro (ab_hk_none rfl) (And.intro (ab_hk_none rfl) (And.intro (ab_hk_none rfl) (And.intro (ab_hk_none rfl) (And.intro (ab_hk_none rfl) (And.intro (ab_hk_none rfl) (And.intro (ab_hk_none rfl) (And.intro (ab_hk_none rfl) (And.intro (ab_hk_none rfl) (And.intro (ab_hk_none rfl) (And.intro (ab_hk_none rfl) (And.intro (ab_hk_none rfl) (And.intro (ab_hk_none rfl) (And.intro (ab_hk_none rfl) (And.intro (ab_hk_none rfl) (And.intro (ab_hk_none rfl) (And.intro (ab_hk_none rfl) (And.intro (ab_hk_none rfl) (And.intro (ab_hk_none rfl) (And.intro (ab_hk_none rfl) (And.intro (ab_hk_none rfl) (And.intro (ab_hk_none rfl) (And.intro (ab_hk_none rfl) (And.intro (ab_hk_none rfl) (And.intro (ab_hk_none rfl) (And.intro (ab_hk_none rfl) (And.intro (ab_hk_none rfl) (And.intro (ab_hk_none rfl) (And.intro (ab_hk_none rfl) (And.intro (ab_hk_none rfl) (And.intro (ab_hk_none rfl) (And.intro (ab_hk_none rfl) (And.intro (ab_hk_none rfl) (And.intro (ab_hk_none rfl) (And.intro (ab_hk_none rfl) (And.intro (ab_hk_none rfl) (And.intro (ab_hk_none rfl) (And.intro (ab_hk_none rfl) (And.intro (ab_hk_none rfl) (And.intro (ab_hk_none rfl) (And.intro (ab_hk_none rfl) (And.intro (ab_hk_none rfl) (And.intro (ab_hk_none rfl) (And.intro (ab_hk_none rfl) (And.intro (ab_hk_none rfl) (And.intro (ab_hk_none rfl) (And.intro (ab_hk_none rfl) (And.intro (ab_hk_none rfl) (And.intro (ab_hk_none rfl) (And.intro (ab_hk_none rfl) (And.intro (ab_hk_none rfl) (And.intro (ab_hk_none rfl) (And.intro (ab_hk_none rfl) (And.intro (ab_hk_none rfl) (And.intro (ab_hk_none rfl) (And.intro (ab_hk_none rfl) (And.intro (ab_hk_none rfl) (And.intro (ab_hk_none rfl) (And.intro (ab_hk_none rfl) (And.intro (ab_hk_none rfl) (And.intro (ab_hk_none rfl) (And.intro (ab_hk_none rfl) (And.intro (ab_hk_none rfl) (And.intro (ab_hk_none rfl) (And.intro (ab_hk_none rfl) (And.intro (ab_hk_none rfl) (And.intro (ab_hk_none rfl) (And.intro (ab_hk_none rfl) (And.intro (ab_hk_none rfl) (And.intro (ab_hk_none rfl) (And.intro (ab_hk_none rfl) (And.intro (ab_hk_none rfl) (And.intro (ab_hk_none rfl) (And.intro (ab_hk_none rfl) (trivial)))))))))))))))))))))))))))))))))))))))))))))))))))))))))))))))))))))))))))))))))))))))))))))))))))))))))))))))))))))))))))))))))))))))))))))))))))))))))))))))))))))))))))))))))))))))))))))))))))))))))))))))))))))))))))))))))))))))))))))))))))))))))))))))))))))))))))))))))))))))))))))
theorem ab_allp : ∀ G ∈ ab_mtl, plainName G.1.cls = true := by decide +kernel
theorem ab_sound9 (K : ab_Kt) : ∀ (f M pc : Nat) (ls : ab_Ls) (st : List Value) (h : ab_H) (o : ab_O) (h' : ab_H), ab_run (ab_P9 K) ab_mx ab_hn f M pc ls st h = some (o, h') → ab_cl K ab_mt M pc ls st h o h' := by
  refine ab_sound (fun M pc => ?_) (fun M => ?_) (fun _ => rfl) (fun M => ?_)
  · exact ab_getD2 (Q := fun G (c : Nat → ab_Op) => ∀ pc, ab_OK K ab_mt G pc (c pc)) (ab_allk K) (fun _ => ab_fail_ok) M pc
  · exact ab_getD2 (Q := fun G (c : Nat → String → Option (Option Nat)) => ab_HOK G c) ab_allh (ab_hk_none rfl) M
  · unfold ab_mt
    by_cases h : M < ab_mtl.length
    · rw [List.getD_eq_getElem?_getD, List.getElem?_eq_getElem h]
      exact ab_allp _ (List.getElem_mem h)
    · rw [List.getD_eq_getElem?_getD, List.getElem?_eq_none (by omega)]
      exact (by decide +kernel : plainName ab_g0.1.cls = true)
