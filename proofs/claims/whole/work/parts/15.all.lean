/-! ===== all code tables hold; the handlers; the run is what the machine does ===== -/
theorem ab_hk3 : ab_HOK ab_g3 ab_hn3 := by
  intro pc E
  unfold ab_hn3
  by_cases hp : pc = 3
  · subst hp
    rw [if_pos rfl]
    by_cases h0 : E = "java/lang/IllegalStateException"
    · subst h0
      refine ⟨fun h => ?_, fun ph h => ?_⟩
      · revert h; simp
      · have e : ph = 11 := by revert h; simp; exact fun h => h.symm
        subst e
        exact ⟨[], ⟨0, 8, 11, 113⟩, [], rfl, fun z hz => absurd hz List.not_mem_nil, by decide, by decide, ab_w1405, by simp [ab_nw], rfl⟩
    · rw [if_neg h0]
      exact ⟨fun h => by cases h, fun ph h => by cases h⟩
  · rw [if_neg hp]
    exact ⟨fun h => by cases h, fun ph h => by cases h⟩
theorem ab_hk8 : ab_HOK ab_g8 ab_hn8 := by
  intro pc E
  unfold ab_hn8
  by_cases hp : pc = 3
  · subst hp
    rw [if_pos rfl]
    by_cases h0 : E = "java/lang/IllegalStateException"
    · subst h0
      refine ⟨fun h => ?_, fun ph h => ?_⟩
      · revert h; simp
      · have e : ph = 11 := by revert h; simp; exact fun h => h.symm
        subst e
        exact ⟨[], ⟨0, 8, 11, 113⟩, [], rfl, fun z hz => absurd hz List.not_mem_nil, by decide, by decide, ab_w1405, by simp [ab_nw], rfl⟩
    · rw [if_neg h0]
      exact ⟨fun h => by cases h, fun ph h => by cases h⟩
  · rw [if_neg hp]
    exact ⟨fun h => by cases h, fun ph h => by cases h⟩
theorem ab_hk10 : ab_HOK ab_g10 ab_hn10 := by
  intro pc E
  unfold ab_hn10
  by_cases hp : pc = 4
  · subst hp
    rw [if_pos rfl]
    by_cases h0 : E = "java/lang/IllegalArgumentException"
    · subst h0
      refine ⟨fun h => ?_, fun ph h => ?_⟩
      · revert h; simp
      · have e : ph = 12 := by revert h; simp; exact fun h => h.symm
        subst e
        exact ⟨[], ⟨0, 9, 12, 59⟩, [], rfl, fun z hz => absurd hz List.not_mem_nil, by decide, by decide, ab_w1406, by simp [ab_nw], rfl⟩
    · rw [if_neg h0]
      exact ⟨fun h => by cases h, fun ph h => by cases h⟩
  · rw [if_neg hp]
    exact ⟨fun h => by cases h, fun ph h => by cases h⟩
theorem ab_hk12 : ab_HOK ab_g12 ab_hn12 := by
  intro pc E
  unfold ab_hn12
  by_cases hp : pc = 3
  · subst hp
    rw [if_pos rfl]
    by_cases h0 : E = "java/lang/ArithmeticException"
    · subst h0
      refine ⟨fun h => ?_, fun ph h => ?_⟩
      · revert h; simp
      · have e : ph = 10 := by revert h; simp; exact fun h => h.symm
        subst e
        exact ⟨[], ⟨0, 7, 10, 133⟩, [], rfl, fun z hz => absurd hz List.not_mem_nil, by decide, by decide, ab_w1407, by simp [ab_nw], rfl⟩
    · rw [if_neg h0]
      exact ⟨fun h => by cases h, fun ph h => by cases h⟩
  · rw [if_neg hp]
    exact ⟨fun h => by cases h, fun ph h => by cases h⟩
theorem ab_hk14 : ab_HOK ab_g14 ab_hn14 := by
  intro pc E
  unfold ab_hn14
  by_cases hp : pc = 4
  · subst hp
    rw [if_pos rfl]
    by_cases h0 : E = "java/lang/IndexOutOfBoundsException"
    · subst h0
      refine ⟨fun h => ?_, fun ph h => ?_⟩
      · revert h; simp
      · have e : ph = 12 := by revert h; simp; exact fun h => h.symm
        subst e
        exact ⟨[], ⟨0, 9, 12, 57⟩, [⟨0, 9, 15, 133⟩], rfl, fun z hz => absurd hz List.not_mem_nil, by decide, by decide, ab_w1408, by simp [ab_nw], rfl⟩
    · rw [if_neg h0]
      by_cases h1 : E = "java/lang/ArithmeticException"
      · subst h1
        refine ⟨fun h => ?_, fun ph h => ?_⟩
        · revert h; simp
        · have e : ph = 15 := by revert h; simp; exact fun h => h.symm
          subst e
          exact ⟨[⟨0, 9, 12, 57⟩], ⟨0, 9, 15, 133⟩, [], rfl, fun z hz => by rw [List.mem_singleton.mp hz]; exact Or.inr ⟨by decide, "java/lang/IndexOutOfBoundsException", ab_w1408, by decide⟩, by decide, by decide, ab_w1407, by simp [ab_nw], rfl⟩
      · rw [if_neg h1]
        exact ⟨fun h => by cases h, fun ph h => by cases h⟩
  · rw [if_neg hp]
    exact ⟨fun h => by cases h, fun ph h => by cases h⟩
theorem ab_hk16 : ab_HOK ab_g16 ab_hn16 := by
  intro pc E
  unfold ab_hn16
  by_cases hp : pc = 4
  · subst hp
    rw [if_pos rfl]
    by_cases h0 : E = "java/lang/IndexOutOfBoundsException"
    · subst h0
      refine ⟨fun h => ?_, fun ph h => ?_⟩
      · revert h; simp
      · have e : ph = 12 := by revert h; simp; exact fun h => h.symm
        subst e
        exact ⟨[], ⟨0, 9, 12, 57⟩, [], rfl, fun z hz => absurd hz List.not_mem_nil, by decide, by decide, ab_w1408, by simp [ab_nw], rfl⟩
    · rw [if_neg h0]
      exact ⟨fun h => by cases h, fun ph h => by cases h⟩
  · rw [if_neg hp]
    exact ⟨fun h => by cases h, fun ph h => by cases h⟩
theorem ab_hk18 : ab_HOK ab_g18 ab_hn18 := by
  intro pc E
  unfold ab_hn18
  by_cases hp : pc = 4
  · subst hp
    rw [if_pos rfl]
    by_cases h0 : E = "java/lang/IndexOutOfBoundsException"
    · subst h0
      refine ⟨fun h => ?_, fun ph h => ?_⟩
      · revert h; simp
      · have e : ph = 12 := by revert h; simp; exact fun h => h.symm
        subst e
        exact ⟨[], ⟨0, 9, 12, 57⟩, [], rfl, fun z hz => absurd hz List.not_mem_nil, by decide, by decide, ab_w1408, by simp [ab_nw], rfl⟩
    · rw [if_neg h0]
      exact ⟨fun h => by cases h, fun ph h => by cases h⟩
  · rw [if_neg hp]
    exact ⟨fun h => by cases h, fun ph h => by cases h⟩
theorem ab_hk20 : ab_HOK ab_g20 ab_hn20 := by
  intro pc E
  unfold ab_hn20
  by_cases hp : pc = 4
  · subst hp
    rw [if_pos rfl]
    by_cases h0 : E = "java/lang/IllegalArgumentException"
    · subst h0
      refine ⟨fun h => ?_, fun ph h => ?_⟩
      · revert h; simp
      · have e : ph = 12 := by revert h; simp; exact fun h => h.symm
        subst e
        exact ⟨[], ⟨0, 9, 12, 59⟩, [⟨0, 9, 15, 76⟩], rfl, fun z hz => absurd hz List.not_mem_nil, by decide, by decide, ab_w1406, by simp [ab_nw], rfl⟩
    · rw [if_neg h0]
      by_cases h1 : E = "java/util/NoSuchElementException"
      · subst h1
        refine ⟨fun h => ?_, fun ph h => ?_⟩
        · revert h; simp
        · have e : ph = 15 := by revert h; simp; exact fun h => h.symm
          subst e
          exact ⟨[⟨0, 9, 12, 59⟩], ⟨0, 9, 15, 76⟩, [], rfl, fun z hz => by rw [List.mem_singleton.mp hz]; exact Or.inr ⟨by decide, "java/lang/IllegalArgumentException", ab_w1406, by decide⟩, by decide, by decide, ab_w1409, by simp [ab_nw], rfl⟩
      · rw [if_neg h1]
        exact ⟨fun h => by cases h, fun ph h => by cases h⟩
  · rw [if_neg hp]
    exact ⟨fun h => by cases h, fun ph h => by cases h⟩
theorem ab_hk24 : ab_HOK ab_g24 ab_hn24 := by
  intro pc E
  unfold ab_hn24
  by_cases hp : pc = 3
  · subst hp
    rw [if_pos rfl]
    by_cases h0 : E = "java/lang/IllegalArgumentException"
    · subst h0
      refine ⟨fun h => ?_, fun ph h => ?_⟩
      · revert h; simp
      · have e : ph = 11 := by revert h; simp; exact fun h => h.symm
        subst e
        exact ⟨[], ⟨0, 8, 11, 59⟩, [⟨0, 8, 14, 13⟩], rfl, fun z hz => absurd hz List.not_mem_nil, by decide, by decide, ab_w1406, by simp [ab_nw], rfl⟩
    · rw [if_neg h0]
      by_cases h1 : E = "java/lang/UnsupportedOperationException"
      · subst h1
        refine ⟨fun h => ?_, fun ph h => ?_⟩
        · revert h; simp
        · have e : ph = 14 := by revert h; simp; exact fun h => h.symm
          subst e
          exact ⟨[⟨0, 8, 11, 59⟩], ⟨0, 8, 14, 13⟩, [], rfl, fun z hz => by rw [List.mem_singleton.mp hz]; exact Or.inr ⟨by decide, "java/lang/IllegalArgumentException", ab_w1406, by decide⟩, by decide, by decide, ab_w1410, by simp [ab_nw], rfl⟩
      · rw [if_neg h1]
        exact ⟨fun h => by cases h, fun ph h => by cases h⟩
  · rw [if_neg hp]
    exact ⟨fun h => by cases h, fun ph h => by cases h⟩
theorem ab_hk26 : ab_HOK ab_g26 ab_hn26 := by
  intro pc E
  unfold ab_hn26
  by_cases hp : pc = 4
  · subst hp
    rw [if_pos rfl]
    by_cases h0 : E = "java/lang/IllegalStateException"
    · subst h0
      refine ⟨fun h => ?_, fun ph h => ?_⟩
      · revert h; simp
      · have e : ph = 12 := by revert h; simp; exact fun h => h.symm
        subst e
        exact ⟨[], ⟨0, 9, 12, 113⟩, [], rfl, fun z hz => absurd hz List.not_mem_nil, by decide, by decide, ab_w1405, by simp [ab_nw], rfl⟩
    · rw [if_neg h0]
      exact ⟨fun h => by cases h, fun ph h => by cases h⟩
  · rw [if_neg hp]
    exact ⟨fun h => by cases h, fun ph h => by cases h⟩
theorem ab_hk28 : ab_HOK ab_g28 ab_hn28 := by
  intro pc E
  unfold ab_hn28
  by_cases hp : pc = 4
  · subst hp
    rw [if_pos rfl]
    by_cases h0 : E = "java/util/NoSuchElementException"
    · subst h0
      refine ⟨fun h => ?_, fun ph h => ?_⟩
      · revert h; simp
      · have e : ph = 12 := by revert h; simp; exact fun h => h.symm
        subst e
        exact ⟨[], ⟨0, 9, 12, 76⟩, [], rfl, fun z hz => absurd hz List.not_mem_nil, by decide, by decide, ab_w1409, by simp [ab_nw], rfl⟩
    · rw [if_neg h0]
      exact ⟨fun h => by cases h, fun ph h => by cases h⟩
  · rw [if_neg hp]
    exact ⟨fun h => by cases h, fun ph h => by cases h⟩
theorem ab_hk30 : ab_HOK ab_g30 ab_hn30 := by
  intro pc E
  unfold ab_hn30
  by_cases hp : pc = 4
  · subst hp
    rw [if_pos rfl]
    by_cases h0 : E = "java/lang/IndexOutOfBoundsException"
    · subst h0
      refine ⟨fun h => ?_, fun ph h => ?_⟩
      · revert h; simp
      · have e : ph = 12 := by revert h; simp; exact fun h => h.symm
        subst e
        exact ⟨[], ⟨0, 9, 12, 57⟩, [⟨0, 9, 15, 76⟩], rfl, fun z hz => absurd hz List.not_mem_nil, by decide, by decide, ab_w1408, by simp [ab_nw], rfl⟩
    · rw [if_neg h0]
      by_cases h1 : E = "java/util/NoSuchElementException"
      · subst h1
        refine ⟨fun h => ?_, fun ph h => ?_⟩
        · revert h; simp
        · have e : ph = 15 := by revert h; simp; exact fun h => h.symm
          subst e
          exact ⟨[⟨0, 9, 12, 57⟩], ⟨0, 9, 15, 76⟩, [], rfl, fun z hz => by rw [List.mem_singleton.mp hz]; exact Or.inr ⟨by decide, "java/lang/IndexOutOfBoundsException", ab_w1408, by decide⟩, by decide, by decide, ab_w1409, by simp [ab_nw], rfl⟩
      · rw [if_neg h1]
        exact ⟨fun h => by cases h, fun ph h => by cases h⟩
  · rw [if_neg hp]
    exact ⟨fun h => by cases h, fun ph h => by cases h⟩
theorem ab_hk32 : ab_HOK ab_g32 ab_hn32 := by
  intro pc E
  unfold ab_hn32
  by_cases hp : pc = 4
  · subst hp
    rw [if_pos rfl]
    by_cases h0 : E = "java/lang/IndexOutOfBoundsException"
    · subst h0
      refine ⟨fun h => ?_, fun ph h => ?_⟩
      · revert h; simp
      · have e : ph = 12 := by revert h; simp; exact fun h => h.symm
        subst e
        exact ⟨[], ⟨0, 9, 12, 57⟩, [⟨0, 9, 15, 76⟩], rfl, fun z hz => absurd hz List.not_mem_nil, by decide, by decide, ab_w1408, by simp [ab_nw], rfl⟩
    · rw [if_neg h0]
      by_cases h1 : E = "java/util/NoSuchElementException"
      · subst h1
        refine ⟨fun h => ?_, fun ph h => ?_⟩
        · revert h; simp
        · have e : ph = 15 := by revert h; simp; exact fun h => h.symm
          subst e
          exact ⟨[⟨0, 9, 12, 57⟩], ⟨0, 9, 15, 76⟩, [], rfl, fun z hz => by rw [List.mem_singleton.mp hz]; exact Or.inr ⟨by decide, "java/lang/IndexOutOfBoundsException", ab_w1408, by decide⟩, by decide, by decide, ab_w1409, by simp [ab_nw], rfl⟩
      · rw [if_neg h1]
        exact ⟨fun h => by cases h, fun ph h => by cases h⟩
  · rw [if_neg hp]
    exact ⟨fun h => by cases h, fun ph h => by cases h⟩
theorem ab_hk34 : ab_HOK ab_g34 ab_hn34 := by
  intro pc E
  unfold ab_hn34
  by_cases hp : pc = 5
  · subst hp
    rw [if_pos rfl]
    by_cases h0 : E = "java/lang/IndexOutOfBoundsException"
    · subst h0
      refine ⟨fun h => ?_, fun ph h => ?_⟩
      · revert h; simp
      · have e : ph = 13 := by revert h; simp; exact fun h => h.symm
        subst e
        exact ⟨[], ⟨0, 10, 13, 57⟩, [⟨0, 10, 17, 76⟩], rfl, fun z hz => absurd hz List.not_mem_nil, by decide, by decide, ab_w1408, by simp [ab_nw], rfl⟩
    · rw [if_neg h0]
      by_cases h1 : E = "java/util/NoSuchElementException"
      · subst h1
        refine ⟨fun h => ?_, fun ph h => ?_⟩
        · revert h; simp
        · have e : ph = 17 := by revert h; simp; exact fun h => h.symm
          subst e
          exact ⟨[⟨0, 10, 13, 57⟩], ⟨0, 10, 17, 76⟩, [], rfl, fun z hz => by rw [List.mem_singleton.mp hz]; exact Or.inr ⟨by decide, "java/lang/IndexOutOfBoundsException", ab_w1408, by decide⟩, by decide, by decide, ab_w1409, by simp [ab_nw], rfl⟩
      · rw [if_neg h1]
        exact ⟨fun h => by cases h, fun ph h => by cases h⟩
  · rw [if_neg hp]
    exact ⟨fun h => by cases h, fun ph h => by cases h⟩
theorem ab_hk36 : ab_HOK ab_g36 ab_hn36 := by
  intro pc E
  unfold ab_hn36
  by_cases hp : pc = 5
  · subst hp
    rw [if_pos rfl]
    by_cases h0 : E = "java/lang/IndexOutOfBoundsException"
    · subst h0
      refine ⟨fun h => ?_, fun ph h => ?_⟩
      · revert h; simp
      · have e : ph = 20 := by revert h; simp; exact fun h => h.symm
        subst e
        exact ⟨[], ⟨0, 17, 20, 57⟩, [], rfl, fun z hz => absurd hz List.not_mem_nil, by decide, by decide, ab_w1408, by simp [ab_nw], rfl⟩
    · rw [if_neg h0]
      exact ⟨fun h => by cases h, fun ph h => by cases h⟩
  · rw [if_neg hp]
    exact ⟨fun h => by cases h, fun ph h => by cases h⟩
theorem ab_hk38 : ab_HOK ab_g38 ab_hn38 := by
  intro pc E
  unfold ab_hn38
  by_cases hp : pc = 4
  · subst hp
    rw [if_pos rfl]
    by_cases h0 : E = "java/lang/IndexOutOfBoundsException"
    · subst h0
      refine ⟨fun h => ?_, fun ph h => ?_⟩
      · revert h; simp
      · have e : ph = 12 := by revert h; simp; exact fun h => h.symm
        subst e
        exact ⟨[], ⟨0, 9, 12, 57⟩, [], rfl, fun z hz => absurd hz List.not_mem_nil, by decide, by decide, ab_w1408, by simp [ab_nw], rfl⟩
    · rw [if_neg h0]
      exact ⟨fun h => by cases h, fun ph h => by cases h⟩
  · rw [if_neg hp]
    exact ⟨fun h => by cases h, fun ph h => by cases h⟩
theorem ab_hk40 : ab_HOK ab_g40 ab_hn40 := by
  intro pc E
  unfold ab_hn40
  by_cases hp : pc = 5
  · subst hp
    rw [if_pos rfl]
    by_cases h0 : E = "java/lang/IndexOutOfBoundsException"
    · subst h0
      refine ⟨fun h => ?_, fun ph h => ?_⟩
      · revert h; simp
      · have e : ph = 13 := by revert h; simp; exact fun h => h.symm
        subst e
        exact ⟨[], ⟨0, 10, 13, 57⟩, [], rfl, fun z hz => absurd hz List.not_mem_nil, by decide, by decide, ab_w1408, by simp [ab_nw], rfl⟩
    · rw [if_neg h0]
      exact ⟨fun h => by cases h, fun ph h => by cases h⟩
  · rw [if_neg hp]
    exact ⟨fun h => by cases h, fun ph h => by cases h⟩
theorem ab_hk42 : ab_HOK ab_g42 ab_hn42 := by
  intro pc E
  unfold ab_hn42
  by_cases hp : pc = 4
  · subst hp
    rw [if_pos rfl]
    by_cases h0 : E = "java/lang/IndexOutOfBoundsException"
    · subst h0
      refine ⟨fun h => ?_, fun ph h => ?_⟩
      · revert h; simp
      · have e : ph = 12 := by revert h; simp; exact fun h => h.symm
        subst e
        exact ⟨[], ⟨0, 9, 12, 57⟩, [], rfl, fun z hz => absurd hz List.not_mem_nil, by decide, by decide, ab_w1408, by simp [ab_nw], rfl⟩
    · rw [if_neg h0]
      exact ⟨fun h => by cases h, fun ph h => by cases h⟩
  · rw [if_neg hp]
    exact ⟨fun h => by cases h, fun ph h => by cases h⟩
theorem ab_hk44 : ab_HOK ab_g44 ab_hn44 := by
  intro pc E
  unfold ab_hn44
  by_cases hp : pc = 5
  · subst hp
    rw [if_pos rfl]
    by_cases h0 : E = "java/lang/IndexOutOfBoundsException"
    · subst h0
      refine ⟨fun h => ?_, fun ph h => ?_⟩
      · revert h; simp
      · have e : ph = 13 := by revert h; simp; exact fun h => h.symm
        subst e
        exact ⟨[], ⟨0, 10, 13, 57⟩, [⟨0, 10, 17, 76⟩], rfl, fun z hz => absurd hz List.not_mem_nil, by decide, by decide, ab_w1408, by simp [ab_nw], rfl⟩
    · rw [if_neg h0]
      by_cases h1 : E = "java/util/NoSuchElementException"
      · subst h1
        refine ⟨fun h => ?_, fun ph h => ?_⟩
        · revert h; simp
        · have e : ph = 17 := by revert h; simp; exact fun h => h.symm
          subst e
          exact ⟨[⟨0, 10, 13, 57⟩], ⟨0, 10, 17, 76⟩, [], rfl, fun z hz => by rw [List.mem_singleton.mp hz]; exact Or.inr ⟨by decide, "java/lang/IndexOutOfBoundsException", ab_w1408, by decide⟩, by decide, by decide, ab_w1409, by simp [ab_nw], rfl⟩
      · rw [if_neg h1]
        exact ⟨fun h => by cases h, fun ph h => by cases h⟩
  · rw [if_neg hp]
    exact ⟨fun h => by cases h, fun ph h => by cases h⟩
theorem ab_hk46 : ab_HOK ab_g46 ab_hn46 := by
  intro pc E
  unfold ab_hn46
  by_cases hp : pc = 4
  · subst hp
    rw [if_pos rfl]
    by_cases h0 : E = "java/lang/IndexOutOfBoundsException"
    · subst h0
      refine ⟨fun h => ?_, fun ph h => ?_⟩
      · revert h; simp
      · have e : ph = 12 := by revert h; simp; exact fun h => h.symm
        subst e
        exact ⟨[], ⟨0, 9, 12, 57⟩, [], rfl, fun z hz => absurd hz List.not_mem_nil, by decide, by decide, ab_w1408, by simp [ab_nw], rfl⟩
    · rw [if_neg h0]
      exact ⟨fun h => by cases h, fun ph h => by cases h⟩
  · rw [if_neg hp]
    exact ⟨fun h => by cases h, fun ph h => by cases h⟩
theorem ab_hk48 : ab_HOK ab_g48 ab_hn48 := by
  intro pc E
  unfold ab_hn48
  by_cases hp : pc = 4
  · subst hp
    rw [if_pos rfl]
    by_cases h0 : E = "java/lang/IndexOutOfBoundsException"
    · subst h0
      refine ⟨fun h => ?_, fun ph h => ?_⟩
      · revert h; simp
      · have e : ph = 12 := by revert h; simp; exact fun h => h.symm
        subst e
        exact ⟨[], ⟨0, 9, 12, 57⟩, [⟨0, 9, 15, 76⟩], rfl, fun z hz => absurd hz List.not_mem_nil, by decide, by decide, ab_w1408, by simp [ab_nw], rfl⟩
    · rw [if_neg h0]
      by_cases h1 : E = "java/util/NoSuchElementException"
      · subst h1
        refine ⟨fun h => ?_, fun ph h => ?_⟩
        · revert h; simp
        · have e : ph = 15 := by revert h; simp; exact fun h => h.symm
          subst e
          exact ⟨[⟨0, 9, 12, 57⟩], ⟨0, 9, 15, 76⟩, [], rfl, fun z hz => by rw [List.mem_singleton.mp hz]; exact Or.inr ⟨by decide, "java/lang/IndexOutOfBoundsException", ab_w1408, by decide⟩, by decide, by decide, ab_w1409, by simp [ab_nw], rfl⟩
      · rw [if_neg h1]
        exact ⟨fun h => by cases h, fun ph h => by cases h⟩
  · rw [if_neg hp]
    exact ⟨fun h => by cases h, fun ph h => by cases h⟩
theorem ab_hk50 : ab_HOK ab_g50 ab_hn50 := by
  intro pc E
  unfold ab_hn50
  by_cases hp : pc = 4
  · subst hp
    rw [if_pos rfl]
    by_cases h0 : E = "java/lang/IndexOutOfBoundsException"
    · subst h0
      refine ⟨fun h => ?_, fun ph h => ?_⟩
      · revert h; simp
      · have e : ph = 12 := by revert h; simp; exact fun h => h.symm
        subst e
        exact ⟨[], ⟨0, 9, 12, 57⟩, [], rfl, fun z hz => absurd hz List.not_mem_nil, by decide, by decide, ab_w1408, by simp [ab_nw], rfl⟩
    · rw [if_neg h0]
      exact ⟨fun h => by cases h, fun ph h => by cases h⟩
  · rw [if_neg hp]
    exact ⟨fun h => by cases h, fun ph h => by cases h⟩
theorem ab_hk52 : ab_HOK ab_g52 ab_hn52 := by
  intro pc E
  unfold ab_hn52
  by_cases hp : pc = 4
  · subst hp
    rw [if_pos rfl]
    by_cases h0 : E = "java/lang/IndexOutOfBoundsException"
    · subst h0
      refine ⟨fun h => ?_, fun ph h => ?_⟩
      · revert h; simp
      · have e : ph = 12 := by revert h; simp; exact fun h => h.symm
        subst e
        exact ⟨[], ⟨0, 9, 12, 57⟩, [], rfl, fun z hz => absurd hz List.not_mem_nil, by decide, by decide, ab_w1408, by simp [ab_nw], rfl⟩
    · rw [if_neg h0]
      exact ⟨fun h => by cases h, fun ph h => by cases h⟩
  · rw [if_neg hp]
    exact ⟨fun h => by cases h, fun ph h => by cases h⟩
theorem ab_hk54 : ab_HOK ab_g54 ab_hn54 := by
  intro pc E
  unfold ab_hn54
  by_cases hp : pc = 5
  · subst hp
    rw [if_pos rfl]
    by_cases h0 : E = "java/lang/IndexOutOfBoundsException"
    · subst h0
      refine ⟨fun h => ?_, fun ph h => ?_⟩
      · revert h; simp
      · have e : ph = 13 := by revert h; simp; exact fun h => h.symm
        subst e
        exact ⟨[], ⟨0, 10, 13, 57⟩, [], rfl, fun z hz => absurd hz List.not_mem_nil, by decide, by decide, ab_w1408, by simp [ab_nw], rfl⟩
    · rw [if_neg h0]
      exact ⟨fun h => by cases h, fun ph h => by cases h⟩
  · rw [if_neg hp]
    exact ⟨fun h => by cases h, fun ph h => by cases h⟩
theorem ab_hk56 : ab_HOK ab_g56 ab_hn56 := by
  intro pc E
  unfold ab_hn56
  by_cases hp : pc = 7
  · subst hp
    rw [if_pos rfl]
    by_cases h0 : E = "java/lang/IndexOutOfBoundsException"
    · subst h0
      refine ⟨fun h => ?_, fun ph h => ?_⟩
      · revert h; simp
      · have e : ph = 15 := by revert h; simp; exact fun h => h.symm
        subst e
        exact ⟨[], ⟨0, 12, 15, 57⟩, [⟨0, 12, 19, 59⟩], rfl, fun z hz => absurd hz List.not_mem_nil, by decide, by decide, ab_w1408, by simp [ab_nw], rfl⟩
    · rw [if_neg h0]
      by_cases h1 : E = "java/lang/IllegalArgumentException"
      · subst h1
        refine ⟨fun h => ?_, fun ph h => ?_⟩
        · revert h; simp
        · have e : ph = 19 := by revert h; simp; exact fun h => h.symm
          subst e
          exact ⟨[⟨0, 12, 15, 57⟩], ⟨0, 12, 19, 59⟩, [], rfl, fun z hz => by rw [List.mem_singleton.mp hz]; exact Or.inr ⟨by decide, "java/lang/IndexOutOfBoundsException", ab_w1408, by decide⟩, by decide, by decide, ab_w1406, by simp [ab_nw], rfl⟩
      · rw [if_neg h1]
        exact ⟨fun h => by cases h, fun ph h => by cases h⟩
  · rw [if_neg hp]
    exact ⟨fun h => by cases h, fun ph h => by cases h⟩
theorem ab_hk58 : ab_HOK ab_g58 ab_hn58 := by
  intro pc E
  unfold ab_hn58
  by_cases hp : pc = 5
  · subst hp
    rw [if_pos rfl]
    by_cases h0 : E = "java/lang/IndexOutOfBoundsException"
    · subst h0
      refine ⟨fun h => ?_, fun ph h => ?_⟩
      · revert h; simp
      · have e : ph = 13 := by revert h; simp; exact fun h => h.symm
        subst e
        exact ⟨[], ⟨0, 10, 13, 57⟩, [⟨0, 10, 17, 59⟩], rfl, fun z hz => absurd hz List.not_mem_nil, by decide, by decide, ab_w1408, by simp [ab_nw], rfl⟩
    · rw [if_neg h0]
      by_cases h1 : E = "java/lang/IllegalArgumentException"
      · subst h1
        refine ⟨fun h => ?_, fun ph h => ?_⟩
        · revert h; simp
        · have e : ph = 17 := by revert h; simp; exact fun h => h.symm
          subst e
          exact ⟨[⟨0, 10, 13, 57⟩], ⟨0, 10, 17, 59⟩, [], rfl, fun z hz => by rw [List.mem_singleton.mp hz]; exact Or.inr ⟨by decide, "java/lang/IndexOutOfBoundsException", ab_w1408, by decide⟩, by decide, by decide, ab_w1406, by simp [ab_nw], rfl⟩
      · rw [if_neg h1]
        exact ⟨fun h => by cases h, fun ph h => by cases h⟩
  · rw [if_neg hp]
    exact ⟨fun h => by cases h, fun ph h => by cases h⟩
theorem ab_hk60 : ab_HOK ab_g60 ab_hn60 := by
  intro pc E
  unfold ab_hn60
  by_cases hp : pc = 4
  · subst hp
    rw [if_pos rfl]
    by_cases h0 : E = "java/lang/UnsupportedOperationException"
    · subst h0
      refine ⟨fun h => ?_, fun ph h => ?_⟩
      · revert h; simp
      · have e : ph = 12 := by revert h; simp; exact fun h => h.symm
        subst e
        exact ⟨[], ⟨0, 9, 12, 13⟩, [], rfl, fun z hz => absurd hz List.not_mem_nil, by decide, by decide, ab_w1410, by simp [ab_nw], rfl⟩
    · rw [if_neg h0]
      exact ⟨fun h => by cases h, fun ph h => by cases h⟩
  · rw [if_neg hp]
    exact ⟨fun h => by cases h, fun ph h => by cases h⟩
theorem ab_hk62 : ab_HOK ab_g62 ab_hn62 := by
  intro pc E
  unfold ab_hn62
  by_cases hp : pc = 4
  · subst hp
    rw [if_pos rfl]
    by_cases h0 : E = "java/lang/UnsupportedOperationException"
    · subst h0
      refine ⟨fun h => ?_, fun ph h => ?_⟩
      · revert h; simp
      · have e : ph = 12 := by revert h; simp; exact fun h => h.symm
        subst e
        exact ⟨[], ⟨0, 9, 12, 13⟩, [], rfl, fun z hz => absurd hz List.not_mem_nil, by decide, by decide, ab_w1410, by simp [ab_nw], rfl⟩
    · rw [if_neg h0]
      exact ⟨fun h => by cases h, fun ph h => by cases h⟩
  · rw [if_neg hp]
    exact ⟨fun h => by cases h, fun ph h => by cases h⟩
theorem ab_hk64 : ab_HOK ab_g64 ab_hn64 := by
  intro pc E
  unfold ab_hn64
  by_cases hp : pc = 5
  · subst hp
    rw [if_pos rfl]
    by_cases h0 : E = "java/lang/UnsupportedOperationException"
    · subst h0
      refine ⟨fun h => ?_, fun ph h => ?_⟩
      · revert h; simp
      · have e : ph = 13 := by revert h; simp; exact fun h => h.symm
        subst e
        exact ⟨[], ⟨0, 10, 13, 13⟩, [], rfl, fun z hz => absurd hz List.not_mem_nil, by decide, by decide, ab_w1410, by simp [ab_nw], rfl⟩
    · rw [if_neg h0]
      exact ⟨fun h => by cases h, fun ph h => by cases h⟩
  · rw [if_neg hp]
    exact ⟨fun h => by cases h, fun ph h => by cases h⟩
theorem ab_hk66 : ab_HOK ab_g66 ab_hn66 := by
  intro pc E
  unfold ab_hn66
  by_cases hp : pc = 4
  · subst hp
    rw [if_pos rfl]
    by_cases h0 : E = "java/lang/UnsupportedOperationException"
    · subst h0
      refine ⟨fun h => ?_, fun ph h => ?_⟩
      · revert h; simp
      · have e : ph = 12 := by revert h; simp; exact fun h => h.symm
        subst e
        exact ⟨[], ⟨0, 9, 12, 13⟩, [], rfl, fun z hz => absurd hz List.not_mem_nil, by decide, by decide, ab_w1410, by simp [ab_nw], rfl⟩
    · rw [if_neg h0]
      exact ⟨fun h => by cases h, fun ph h => by cases h⟩
  · rw [if_neg hp]
    exact ⟨fun h => by cases h, fun ph h => by cases h⟩
theorem ab_hk68 : ab_HOK ab_g68 ab_hn68 := by
  intro pc E
  unfold ab_hn68
  by_cases hp : pc = 5
  · subst hp
    rw [if_pos rfl]
    by_cases h0 : E = "java/lang/UnsupportedOperationException"
    · subst h0
      refine ⟨fun h => ?_, fun ph h => ?_⟩
      · revert h; simp
      · have e : ph = 13 := by revert h; simp; exact fun h => h.symm
        subst e
        exact ⟨[], ⟨0, 10, 13, 13⟩, [], rfl, fun z hz => absurd hz List.not_mem_nil, by decide, by decide, ab_w1410, by simp [ab_nw], rfl⟩
    · rw [if_neg h0]
      exact ⟨fun h => by cases h, fun ph h => by cases h⟩
  · rw [if_neg hp]
    exact ⟨fun h => by cases h, fun ph h => by cases h⟩
theorem ab_hk70 : ab_HOK ab_g70 ab_hn70 := by
  intro pc E
  unfold ab_hn70
  by_cases hp : pc = 5
  · subst hp
    rw [if_pos rfl]
    by_cases h0 : E = "java/lang/UnsupportedOperationException"
    · subst h0
      refine ⟨fun h => ?_, fun ph h => ?_⟩
      · revert h; simp
      · have e : ph = 13 := by revert h; simp; exact fun h => h.symm
        subst e
        exact ⟨[], ⟨0, 10, 13, 13⟩, [], rfl, fun z hz => absurd hz List.not_mem_nil, by decide, by decide, ab_w1410, by simp [ab_nw], rfl⟩
    · rw [if_neg h0]
      exact ⟨fun h => by cases h, fun ph h => by cases h⟩
  · rw [if_neg hp]
    exact ⟨fun h => by cases h, fun ph h => by cases h⟩
theorem ab_hk72 : ab_HOK ab_g72 ab_hn72 := by
  intro pc E
  unfold ab_hn72
  by_cases hp : pc = 4
  · subst hp
    rw [if_pos rfl]
    by_cases h0 : E = "java/lang/UnsupportedOperationException"
    · subst h0
      refine ⟨fun h => ?_, fun ph h => ?_⟩
      · revert h; simp
      · have e : ph = 12 := by revert h; simp; exact fun h => h.symm
        subst e
        exact ⟨[], ⟨0, 9, 12, 13⟩, [], rfl, fun z hz => absurd hz List.not_mem_nil, by decide, by decide, ab_w1410, by simp [ab_nw], rfl⟩
    · rw [if_neg h0]
      exact ⟨fun h => by cases h, fun ph h => by cases h⟩
  · rw [if_neg hp]
    exact ⟨fun h => by cases h, fun ph h => by cases h⟩
theorem ab_hk74 : ab_HOK ab_g74 ab_hn74 := by
  intro pc E
  unfold ab_hn74
  by_cases hp : pc = 4
  · subst hp
    rw [if_pos rfl]
    by_cases h0 : E = "java/lang/UnsupportedOperationException"
    · subst h0
      refine ⟨fun h => ?_, fun ph h => ?_⟩
      · revert h; simp
      · have e : ph = 12 := by revert h; simp; exact fun h => h.symm
        subst e
        exact ⟨[], ⟨0, 9, 12, 13⟩, [], rfl, fun z hz => absurd hz List.not_mem_nil, by decide, by decide, ab_w1410, by simp [ab_nw], rfl⟩
    · rw [if_neg h0]
      exact ⟨fun h => by cases h, fun ph h => by cases h⟩
  · rw [if_neg hp]
    exact ⟨fun h => by cases h, fun ph h => by cases h⟩
theorem ab_hk76 : ab_HOK ab_g76 ab_hn76 := by
  intro pc E
  unfold ab_hn76
  by_cases hp : pc = 4
  · subst hp
    rw [if_pos rfl]
    by_cases h0 : E = "java/lang/UnsupportedOperationException"
    · subst h0
      refine ⟨fun h => ?_, fun ph h => ?_⟩
      · revert h; simp
      · have e : ph = 12 := by revert h; simp; exact fun h => h.symm
        subst e
        exact ⟨[], ⟨0, 9, 12, 13⟩, [], rfl, fun z hz => absurd hz List.not_mem_nil, by decide, by decide, ab_w1410, by simp [ab_nw], rfl⟩
    · rw [if_neg h0]
      exact ⟨fun h => by cases h, fun ph h => by cases h⟩
  · rw [if_neg hp]
    exact ⟨fun h => by cases h, fun ph h => by cases h⟩
theorem ab_hk78 : ab_HOK ab_g78 ab_hn78 := by
  intro pc E
  unfold ab_hn78
  by_cases hp : pc = 5
  · subst hp
    rw [if_pos rfl]
    by_cases h0 : E = "java/lang/UnsupportedOperationException"
    · subst h0
      refine ⟨fun h => ?_, fun ph h => ?_⟩
      · revert h; simp
      · have e : ph = 13 := by revert h; simp; exact fun h => h.symm
        subst e
        exact ⟨[], ⟨0, 10, 13, 13⟩, [], rfl, fun z hz => absurd hz List.not_mem_nil, by decide, by decide, ab_w1410, by simp [ab_nw], rfl⟩
    · rw [if_neg h0]
      exact ⟨fun h => by cases h, fun ph h => by cases h⟩
  · rw [if_neg hp]
    exact ⟨fun h => by cases h, fun ph h => by cases h⟩
theorem ab_hk80 : ab_HOK ab_g80 ab_hn80 := by
  intro pc E
  unfold ab_hn80
  by_cases hp : pc = 7
  · subst hp
    rw [if_pos rfl]
    by_cases h0 : E = "java/lang/UnsupportedOperationException"
    · subst h0
      refine ⟨fun h => ?_, fun ph h => ?_⟩
      · revert h; simp
      · have e : ph = 15 := by revert h; simp; exact fun h => h.symm
        subst e
        exact ⟨[], ⟨0, 12, 15, 13⟩, [], rfl, fun z hz => absurd hz List.not_mem_nil, by decide, by decide, ab_w1410, by simp [ab_nw], rfl⟩
    · rw [if_neg h0]
      exact ⟨fun h => by cases h, fun ph h => by cases h⟩
  · rw [if_neg hp]
    exact ⟨fun h => by cases h, fun ph h => by cases h⟩
theorem ab_hk82 : ab_HOK ab_g82 ab_hn82 := by
  intro pc E
  unfold ab_hn82
  by_cases hp : pc = 9
  · subst hp
    rw [if_pos rfl]
    by_cases h0 : E = "java/lang/UnsupportedOperationException"
    · subst h0
      refine ⟨fun h => ?_, fun ph h => ?_⟩
      · revert h; simp
      · have e : ph = 17 := by revert h; simp; exact fun h => h.symm
        subst e
        exact ⟨[], ⟨0, 14, 17, 13⟩, [], rfl, fun z hz => absurd hz List.not_mem_nil, by decide, by decide, ab_w1410, by simp [ab_nw], rfl⟩
    · rw [if_neg h0]
      exact ⟨fun h => by cases h, fun ph h => by cases h⟩
  · rw [if_neg hp]
    exact ⟨fun h => by cases h, fun ph h => by cases h⟩
theorem ab_hk84 : ab_HOK ab_g84 ab_hn84 := by
  intro pc E
  unfold ab_hn84
  by_cases hp : pc = 5
  · subst hp
    rw [if_pos rfl]
    by_cases h0 : E = "java/lang/UnsupportedOperationException"
    · subst h0
      refine ⟨fun h => ?_, fun ph h => ?_⟩
      · revert h; simp
      · have e : ph = 13 := by revert h; simp; exact fun h => h.symm
        subst e
        exact ⟨[], ⟨0, 10, 13, 13⟩, [], rfl, fun z hz => absurd hz List.not_mem_nil, by decide, by decide, ab_w1410, by simp [ab_nw], rfl⟩
    · rw [if_neg h0]
      exact ⟨fun h => by cases h, fun ph h => by cases h⟩
  · rw [if_neg hp]
    exact ⟨fun h => by cases h, fun ph h => by cases h⟩
theorem ab_hk_none {G : ab_M} (h : G.2.2.2.2.1 = []) : ab_HOK G (fun _ _ => some none) := fun _ _ => ⟨fun _ => h, fun ph h => by cases h⟩
theorem ab_getD2 {α β : Type} {Q : α → β → Prop} : ∀ {l1 : List α} {l2 : List β} {a : α} {b : β}, l1.length = l2.length → (∀ q ∈ l1.zip l2, Q q.1 q.2) → Q a b → ∀ M, Q (l1.getD M a) (l2.getD M b)
  | [], [], _, _, _, _, h, _ => h
  | [], _ :: _, _, _, hl, _, _, _ => by simp at hl
  | _ :: _, [], _, _, hl, _, _, _ => by simp at hl
  | x :: l1, y :: l2, a, b, hl, hq, h, 0 => hq (x, y) (by simp)
  | x :: l1, y :: l2, a, b, hl, hq, h, M + 1 => by
    simp only [List.getD_cons_succ]
    exact ab_getD2 (by simpa using hl) (fun q hq' => hq q (by simp [hq'])) h M
theorem ab_allk (K : ab_Kt) : ∀ q ∈ ab_mtl.zip (ab_pl9 K), ∀ pc, ab_OK K ab_mt q.1 pc (q.2 pc) := by
  unfold ab_mtl ab_pl9
  simp only [List.zip_cons_cons, List.zip_nil_right]
  exact List.forall_mem_cons.mpr ⟨ab_k0 K, List.forall_mem_cons.mpr ⟨ab_k1 K, List.forall_mem_cons.mpr ⟨ab_k2 K, List.forall_mem_cons.mpr ⟨ab_k3 K, List.forall_mem_cons.mpr ⟨ab_k4 K, List.forall_mem_cons.mpr ⟨ab_k5 K, List.forall_mem_cons.mpr ⟨ab_k6 K, List.forall_mem_cons.mpr ⟨ab_k7 K, List.forall_mem_cons.mpr ⟨ab_k8 K, List.forall_mem_cons.mpr ⟨ab_k9 K, List.forall_mem_cons.mpr ⟨ab_k10 K, List.forall_mem_cons.mpr ⟨ab_k11 K, List.forall_mem_cons.mpr ⟨ab_k12 K, List.forall_mem_cons.mpr ⟨ab_k13 K, List.forall_mem_cons.mpr ⟨ab_k14 K, List.forall_mem_cons.mpr ⟨ab_k15 K, List.forall_mem_cons.mpr ⟨ab_k16 K, List.forall_mem_cons.mpr ⟨ab_k17 K, List.forall_mem_cons.mpr ⟨ab_k18 K, List.forall_mem_cons.mpr ⟨ab_k19 K, List.forall_mem_cons.mpr ⟨ab_k20 K, List.forall_mem_cons.mpr ⟨ab_k21 K, List.forall_mem_cons.mpr ⟨ab_k22 K, List.forall_mem_cons.mpr ⟨ab_k23 K, List.forall_mem_cons.mpr ⟨ab_k24 K, List.forall_mem_cons.mpr ⟨ab_k25 K, List.forall_mem_cons.mpr ⟨ab_k26 K, List.forall_mem_cons.mpr ⟨ab_k27 K, List.forall_mem_cons.mpr ⟨ab_k28 K, List.forall_mem_cons.mpr ⟨ab_k29 K, List.forall_mem_cons.mpr ⟨ab_k30 K, List.forall_mem_cons.mpr ⟨ab_k31 K, List.forall_mem_cons.mpr ⟨ab_k32 K, List.forall_mem_cons.mpr ⟨ab_k33 K, List.forall_mem_cons.mpr ⟨ab_k34 K, List.forall_mem_cons.mpr ⟨ab_k35 K, List.forall_mem_cons.mpr ⟨ab_k36 K, List.forall_mem_cons.mpr ⟨ab_k37 K, List.forall_mem_cons.mpr ⟨ab_k38 K, List.forall_mem_cons.mpr ⟨ab_k39 K, List.forall_mem_cons.mpr ⟨ab_k40 K, List.forall_mem_cons.mpr ⟨ab_k41 K, List.forall_mem_cons.mpr ⟨ab_k42 K, List.forall_mem_cons.mpr ⟨ab_k43 K, List.forall_mem_cons.mpr ⟨ab_k44 K, List.forall_mem_cons.mpr ⟨ab_k45 K, List.forall_mem_cons.mpr ⟨ab_k46 K, List.forall_mem_cons.mpr ⟨ab_k47 K, List.forall_mem_cons.mpr ⟨ab_k48 K, List.forall_mem_cons.mpr ⟨ab_k49 K, List.forall_mem_cons.mpr ⟨ab_k50 K, List.forall_mem_cons.mpr ⟨ab_k51 K, List.forall_mem_cons.mpr ⟨ab_k52 K, List.forall_mem_cons.mpr ⟨ab_k53 K, List.forall_mem_cons.mpr ⟨ab_k54 K, List.forall_mem_cons.mpr ⟨ab_k55 K, List.forall_mem_cons.mpr ⟨ab_k56 K, List.forall_mem_cons.mpr ⟨ab_k57 K, List.forall_mem_cons.mpr ⟨ab_k58 K, List.forall_mem_cons.mpr ⟨ab_k59 K, List.forall_mem_cons.mpr ⟨ab_k60 K, List.forall_mem_cons.mpr ⟨ab_k61 K, List.forall_mem_cons.mpr ⟨ab_k62 K, List.forall_mem_cons.mpr ⟨ab_k63 K, List.forall_mem_cons.mpr ⟨ab_k64 K, List.forall_mem_cons.mpr ⟨ab_k65 K, List.forall_mem_cons.mpr ⟨ab_k66 K, List.forall_mem_cons.mpr ⟨ab_k67 K, List.forall_mem_cons.mpr ⟨ab_k68 K, List.forall_mem_cons.mpr ⟨ab_k69 K, List.forall_mem_cons.mpr ⟨ab_k70 K, List.forall_mem_cons.mpr ⟨ab_k71 K, List.forall_mem_cons.mpr ⟨ab_k72 K, List.forall_mem_cons.mpr ⟨ab_k73 K, List.forall_mem_cons.mpr ⟨ab_k74 K, List.forall_mem_cons.mpr ⟨ab_k75 K, List.forall_mem_cons.mpr ⟨ab_k76 K, List.forall_mem_cons.mpr ⟨ab_k77 K, List.forall_mem_cons.mpr ⟨ab_k78 K, List.forall_mem_cons.mpr ⟨ab_k79 K, List.forall_mem_cons.mpr ⟨ab_k80 K, List.forall_mem_cons.mpr ⟨ab_k81 K, List.forall_mem_cons.mpr ⟨ab_k82 K, List.forall_mem_cons.mpr ⟨ab_k83 K, List.forall_mem_cons.mpr ⟨ab_k84 K, List.forall_mem_cons.mpr ⟨ab_k85 K, List.forall_mem_cons.mpr ⟨ab_k86 K, List.forall_mem_cons.mpr ⟨ab_k87 K, List.forall_mem_cons.mpr ⟨ab_k88 K, List.forall_mem_cons.mpr ⟨ab_k89 K, List.forall_mem_cons.mpr ⟨ab_k90 K, List.forall_mem_cons.mpr ⟨ab_k91 K, List.forall_mem_cons.mpr ⟨ab_k92 K, List.forall_mem_cons.mpr ⟨ab_k93 K, List.forall_mem_cons.mpr ⟨ab_k94 K, List.forall_mem_cons.mpr ⟨ab_k95 K, List.forall_mem_cons.mpr ⟨ab_k96 K, List.forall_mem_cons.mpr ⟨ab_k97 K, List.forall_mem_cons.mpr ⟨ab_k98 K, List.forall_mem_cons.mpr ⟨ab_k99 K, List.forall_mem_cons.mpr ⟨ab_k100 K, List.forall_mem_cons.mpr ⟨ab_k101 K, List.forall_mem_cons.mpr ⟨ab_k102 K, List.forall_mem_cons.mpr ⟨ab_k103 K, List.forall_mem_cons.mpr ⟨ab_k104 K, List.forall_mem_cons.mpr ⟨ab_k105 K, List.forall_mem_cons.mpr ⟨ab_k106 K, List.forall_mem_cons.mpr ⟨ab_k107 K, List.forall_mem_cons.mpr ⟨ab_k108 K, List.forall_mem_cons.mpr ⟨ab_k109 K, List.forall_mem_cons.mpr ⟨ab_k110 K, List.forall_mem_cons.mpr ⟨ab_k111 K, List.forall_mem_cons.mpr ⟨ab_k112 K, List.forall_mem_cons.mpr ⟨ab_k113 K, List.forall_mem_cons.mpr ⟨ab_k114 K, List.forall_mem_cons.mpr ⟨ab_k115 K, List.forall_mem_cons.mpr ⟨ab_k116 K, List.forall_mem_cons.mpr ⟨ab_k117 K, List.forall_mem_cons.mpr ⟨ab_k118 K, List.forall_mem_cons.mpr ⟨ab_k119 K, List.forall_mem_cons.mpr ⟨ab_k120 K, List.forall_mem_cons.mpr ⟨ab_k121 K, List.forall_mem_cons.mpr ⟨ab_k122 K, List.forall_mem_cons.mpr ⟨ab_k123 K, List.forall_mem_cons.mpr ⟨ab_k124 K, List.forall_mem_cons.mpr ⟨ab_k125 K, List.forall_mem_cons.mpr ⟨ab_k126 K, List.forall_mem_cons.mpr ⟨ab_k127 K, List.forall_mem_cons.mpr ⟨ab_k128 K, List.forall_mem_cons.mpr ⟨ab_k129 K, List.forall_mem_cons.mpr ⟨ab_k130 K, List.forall_mem_cons.mpr ⟨ab_k131 K, List.forall_mem_cons.mpr ⟨ab_k132 K, List.forall_mem_cons.mpr ⟨ab_k133 K, List.forall_mem_cons.mpr ⟨ab_k134 K, List.forall_mem_cons.mpr ⟨ab_k135 K, List.forall_mem_cons.mpr ⟨ab_k136 K, List.forall_mem_cons.mpr ⟨ab_k137 K, List.forall_mem_cons.mpr ⟨ab_k138 K, List.forall_mem_cons.mpr ⟨ab_k139 K, List.forall_mem_cons.mpr ⟨ab_k140 K, List.forall_mem_cons.mpr ⟨ab_k141 K, List.forall_mem_cons.mpr ⟨ab_k142 K, List.forall_mem_cons.mpr ⟨ab_k143 K, List.forall_mem_cons.mpr ⟨ab_k144 K, List.forall_mem_cons.mpr ⟨ab_k145 K, List.forall_mem_cons.mpr ⟨ab_k146 K, List.forall_mem_cons.mpr ⟨ab_k147 K, List.forall_mem_cons.mpr ⟨ab_k148 K, List.forall_mem_cons.mpr ⟨ab_k149 K, List.forall_mem_cons.mpr ⟨ab_k150 K, List.forall_mem_cons.mpr ⟨ab_k151 K, List.forall_mem_cons.mpr ⟨ab_k152 K, List.forall_mem_cons.mpr ⟨ab_k153 K, List.forall_mem_cons.mpr ⟨ab_k154 K, List.forall_mem_cons.mpr ⟨ab_k155 K, List.forall_mem_cons.mpr ⟨ab_k156 K, List.forall_mem_cons.mpr ⟨ab_k157 K, List.forall_mem_cons.mpr ⟨ab_k158 K, List.forall_mem_cons.mpr ⟨ab_k159 K, List.forall_mem_cons.mpr ⟨ab_k160 K, List.forall_mem_cons.mpr ⟨ab_k161 K, List.forall_mem_cons.mpr ⟨ab_k162 K, List.forall_mem_cons.mpr ⟨ab_k163 K, List.forall_mem_cons.mpr ⟨ab_k164 K, List.forall_mem_cons.mpr ⟨ab_k165 K, List.forall_mem_cons.mpr ⟨ab_k166 K, List.forall_mem_cons.mpr ⟨ab_k167 K, List.forall_mem_cons.mpr ⟨ab_k168 K, List.forall_mem_cons.mpr ⟨ab_k169 K, List.forall_mem_cons.mpr ⟨ab_k170 K, List.forall_mem_cons.mpr ⟨ab_k171 K, List.forall_mem_cons.mpr ⟨ab_k172 K, List.forall_mem_cons.mpr ⟨ab_k173 K, List.forall_mem_cons.mpr ⟨ab_k174 K, List.forall_mem_cons.mpr ⟨ab_k175 K, List.forall_mem_cons.mpr ⟨ab_k176 K, List.forall_mem_cons.mpr ⟨ab_k177 K, List.forall_mem_cons.mpr ⟨ab_k178 K, List.forall_mem_cons.mpr ⟨ab_k179 K, List.forall_mem_cons.mpr ⟨ab_k180 K, List.forall_mem_cons.mpr ⟨ab_k181 K, List.forall_mem_cons.mpr ⟨ab_k182 K, List.forall_mem_cons.mpr ⟨ab_k183 K, List.forall_mem_cons.mpr ⟨ab_k184 K, List.forall_mem_cons.mpr ⟨ab_k185 K, List.forall_mem_cons.mpr ⟨ab_k186 K, List.forall_mem_cons.mpr ⟨ab_k187 K, List.forall_mem_cons.mpr ⟨ab_k188 K, List.forall_mem_cons.mpr ⟨ab_k189 K, List.forall_mem_cons.mpr ⟨ab_k190 K, List.forall_mem_cons.mpr ⟨ab_k191 K, List.forall_mem_cons.mpr ⟨ab_k192 K, List.forall_mem_cons.mpr ⟨ab_k193 K, List.forall_mem_cons.mpr ⟨ab_k194 K, List.forall_mem_cons.mpr ⟨ab_k195 K, List.forall_mem_cons.mpr ⟨ab_k196 K, List.forall_mem_cons.mpr ⟨ab_k197 K, List.forall_mem_cons.mpr ⟨ab_k198 K, List.forall_mem_cons.mpr ⟨ab_k199 K, List.forall_mem_cons.mpr ⟨ab_k200 K, List.forall_mem_cons.mpr ⟨ab_k201 K, List.forall_mem_cons.mpr ⟨ab_k202 K, List.forall_mem_cons.mpr ⟨ab_k203 K, List.forall_mem_cons.mpr ⟨ab_k204 K, List.forall_mem_cons.mpr ⟨ab_k205 K, List.forall_mem_cons.mpr ⟨ab_k206 K, List.forall_mem_cons.mpr ⟨ab_k207 K, List.forall_mem_cons.mpr ⟨ab_k208 K, List.forall_mem_cons.mpr ⟨ab_k209 K, List.forall_mem_cons.mpr ⟨ab_k210 K, List.forall_mem_cons.mpr ⟨ab_k211 K, List.forall_mem_cons.mpr ⟨ab_k212 K, List.forall_mem_cons.mpr ⟨ab_k213 K, List.forall_mem_cons.mpr ⟨ab_k214 K, List.forall_mem_cons.mpr ⟨ab_k215 K, List.forall_mem_cons.mpr ⟨ab_k216 K, List.forall_mem_cons.mpr ⟨ab_k217 K, List.forall_mem_cons.mpr ⟨ab_k218 K, List.forall_mem_cons.mpr ⟨ab_k219 K, List.forall_mem_cons.mpr ⟨ab_k220 K, List.forall_mem_cons.mpr ⟨ab_k221 K, List.forall_mem_cons.mpr ⟨ab_k222 K, List.forall_mem_cons.mpr ⟨ab_k223 K, List.forall_mem_cons.mpr ⟨ab_k224 K, List.forall_mem_cons.mpr ⟨ab_k225 K, List.forall_mem_cons.mpr ⟨ab_k226 K, List.forall_mem_cons.mpr ⟨ab_k227 K, List.forall_mem_cons.mpr ⟨ab_k228 K, List.forall_mem_cons.mpr ⟨ab_k229 K, List.forall_mem_cons.mpr ⟨ab_k230 K, List.forall_mem_cons.mpr ⟨ab_k231 K, List.forall_mem_cons.mpr ⟨ab_k232 K, List.forall_mem_cons.mpr ⟨ab_k233 K, List.forall_mem_cons.mpr ⟨ab_k234 K, List.forall_mem_cons.mpr ⟨ab_k235 K, List.forall_mem_cons.mpr ⟨ab_k236 K, List.forall_mem_cons.mpr ⟨ab_k237 K, List.forall_mem_cons.mpr ⟨ab_k238 K, List.forall_mem_cons.mpr ⟨ab_k239 K, List.forall_mem_cons.mpr ⟨ab_k240 K, List.forall_mem_cons.mpr ⟨ab_k241 K, List.forall_mem_cons.mpr ⟨ab_k242 K, List.forall_mem_cons.mpr ⟨ab_k243 K, List.forall_mem_cons.mpr ⟨ab_k244 K, List.forall_mem_cons.mpr ⟨ab_k245 K, List.forall_mem_cons.mpr ⟨ab_k246 K, List.forall_mem_cons.mpr ⟨ab_k247 K, List.forall_mem_cons.mpr ⟨ab_k248 K, List.forall_mem_cons.mpr ⟨ab_k249 K, List.forall_mem_cons.mpr ⟨ab_k250 K, List.forall_mem_cons.mpr ⟨ab_k251 K, List.forall_mem_cons.mpr ⟨ab_k252 K, List.forall_mem_cons.mpr ⟨ab_k253 K, List.forall_mem_cons.mpr ⟨ab_k254 K, List.forall_mem_cons.mpr ⟨ab_k255 K, List.forall_mem_cons.mpr ⟨ab_k256 K, List.forall_mem_cons.mpr ⟨ab_k257 K, List.forall_mem_cons.mpr ⟨ab_k258 K, List.forall_mem_cons.mpr ⟨ab_k259 K, List.forall_mem_cons.mpr ⟨ab_k260 K, List.forall_mem_cons.mpr ⟨ab_k261 K, List.forall_mem_cons.mpr ⟨ab_k262 K, List.forall_mem_cons.mpr ⟨ab_k263 K, List.forall_mem_cons.mpr ⟨ab_k264 K, List.forall_mem_cons.mpr ⟨ab_k265 K, List.forall_mem_cons.mpr ⟨ab_k266 K, List.forall_mem_cons.mpr ⟨ab_k267 K, List.forall_mem_cons.mpr ⟨ab_k268 K, List.forall_mem_cons.mpr ⟨ab_k269 K, List.forall_mem_cons.mpr ⟨ab_k270 K, List.forall_mem_cons.mpr ⟨ab_k271 K, List.forall_mem_cons.mpr ⟨ab_k272 K, List.forall_mem_cons.mpr ⟨ab_k273 K, List.forall_mem_cons.mpr ⟨ab_k274 K, List.forall_mem_cons.mpr ⟨ab_k275 K, List.forall_mem_cons.mpr ⟨ab_k276 K, List.forall_mem_cons.mpr ⟨ab_k277 K, List.forall_mem_cons.mpr ⟨ab_k278 K, List.forall_mem_cons.mpr ⟨ab_k279 K, List.forall_mem_cons.mpr ⟨ab_k280 K, List.forall_mem_cons.mpr ⟨ab_k281 K, List.forall_mem_cons.mpr ⟨ab_k282 K, List.forall_mem_cons.mpr ⟨ab_k283 K, List.forall_mem_cons.mpr ⟨ab_k284 K, fun _ h => absurd h List.not_mem_nil⟩⟩⟩⟩⟩⟩⟩⟩⟩⟩⟩⟩⟩⟩⟩⟩⟩⟩⟩⟩⟩⟩⟩⟩⟩⟩⟩⟩⟩⟩⟩⟩⟩⟩⟩⟩⟩⟩⟩⟩⟩⟩⟩⟩⟩⟩⟩⟩⟩⟩⟩⟩⟩⟩⟩⟩⟩⟩⟩⟩⟩⟩⟩⟩⟩⟩⟩⟩⟩⟩⟩⟩⟩⟩⟩⟩⟩⟩⟩⟩⟩⟩⟩⟩⟩⟩⟩⟩⟩⟩⟩⟩⟩⟩⟩⟩⟩⟩⟩⟩⟩⟩⟩⟩⟩⟩⟩⟩⟩⟩⟩⟩⟩⟩⟩⟩⟩⟩⟩⟩⟩⟩⟩⟩⟩⟩⟩⟩⟩⟩⟩⟩⟩⟩⟩⟩⟩⟩⟩⟩⟩⟩⟩⟩⟩⟩⟩⟩⟩⟩⟩⟩⟩⟩⟩⟩⟩⟩⟩⟩⟩⟩⟩⟩⟩⟩⟩⟩⟩⟩⟩⟩⟩⟩⟩⟩⟩⟩⟩⟩⟩⟩⟩⟩⟩⟩⟩⟩⟩⟩⟩⟩⟩⟩⟩⟩⟩⟩⟩⟩⟩⟩⟩⟩⟩⟩⟩⟩⟩⟩⟩⟩⟩⟩⟩⟩⟩⟩⟩⟩⟩⟩⟩⟩⟩⟩⟩⟩⟩⟩⟩⟩⟩⟩⟩⟩⟩⟩⟩⟩⟩⟩⟩⟩⟩⟩⟩⟩⟩⟩⟩⟩⟩⟩⟩⟩⟩⟩⟩⟩⟩⟩⟩⟩⟩⟩⟩⟩⟩⟩⟩⟩⟩⟩⟩⟩⟩⟩⟩⟩⟩⟩⟩⟩⟩
theorem ab_allh : ∀ q ∈ ab_mtl.zip ab_hnl, ab_HOK q.1 q.2 := by
  unfold ab_mtl ab_hnl
  simp only [List.zip_cons_cons, List.zip_nil_right]
  exact List.forall_mem_cons.mpr ⟨ab_hk_none rfl, List.forall_mem_cons.mpr ⟨ab_hk_none rfl, List.forall_mem_cons.mpr ⟨ab_hk_none rfl, List.forall_mem_cons.mpr ⟨ab_hk3, List.forall_mem_cons.mpr ⟨ab_hk_none rfl, List.forall_mem_cons.mpr ⟨ab_hk_none rfl, List.forall_mem_cons.mpr ⟨ab_hk_none rfl, List.forall_mem_cons.mpr ⟨ab_hk_none rfl, List.forall_mem_cons.mpr ⟨ab_hk8, List.forall_mem_cons.mpr ⟨ab_hk_none rfl, List.forall_mem_cons.mpr ⟨ab_hk10, List.forall_mem_cons.mpr ⟨ab_hk_none rfl, List.forall_mem_cons.mpr ⟨ab_hk12, List.forall_mem_cons.mpr ⟨ab_hk_none rfl, List.forall_mem_cons.mpr ⟨ab_hk14, List.forall_mem_cons.mpr ⟨ab_hk_none rfl, List.forall_mem_cons.mpr ⟨ab_hk16, List.forall_mem_cons.mpr ⟨ab_hk_none rfl, List.forall_mem_cons.mpr ⟨ab_hk18, List.forall_mem_cons.mpr ⟨ab_hk_none rfl, List.forall_mem_cons.mpr ⟨ab_hk20, List.forall_mem_cons.mpr ⟨ab_hk_none rfl, List.forall_mem_cons.mpr ⟨ab_hk_none rfl, List.forall_mem_cons.mpr ⟨ab_hk_none rfl, List.forall_mem_cons.mpr ⟨ab_hk24, List.forall_mem_cons.mpr ⟨ab_hk_none rfl, List.forall_mem_cons.mpr ⟨ab_hk26, List.forall_mem_cons.mpr ⟨ab_hk_none rfl, List.forall_mem_cons.mpr ⟨ab_hk28, List.forall_mem_cons.mpr ⟨ab_hk_none rfl, List.forall_mem_cons.mpr ⟨ab_hk30, List.forall_mem_cons.mpr ⟨ab_hk_none rfl, List.forall_mem_cons.mpr ⟨ab_hk32, List.forall_mem_cons.mpr ⟨ab_hk_none rfl, List.forall_mem_cons.mpr ⟨ab_hk34, List.forall_mem_cons.mpr ⟨ab_hk_none rfl, List.forall_mem_cons.mpr ⟨ab_hk36, List.forall_mem_cons.mpr ⟨ab_hk_none rfl, List.forall_mem_cons.mpr ⟨ab_hk38, List.forall_mem_cons.mpr ⟨ab_hk_none rfl, List.forall_mem_cons.mpr ⟨ab_hk40, List.forall_mem_cons.mpr ⟨ab_hk_none rfl, List.forall_mem_cons.mpr ⟨ab_hk42, List.forall_mem_cons.mpr ⟨ab_hk_none rfl, List.forall_mem_cons.mpr ⟨ab_hk44, List.forall_mem_cons.mpr ⟨ab_hk_none rfl, List.forall_mem_cons.mpr ⟨ab_hk46, List.forall_mem_cons.mpr ⟨ab_hk_none rfl, List.forall_mem_cons.mpr ⟨ab_hk48, List.forall_mem_cons.mpr ⟨ab_hk_none rfl, List.forall_mem_cons.mpr ⟨ab_hk50, List.forall_mem_cons.mpr ⟨ab_hk_none rfl, List.forall_mem_cons.mpr ⟨ab_hk52, List.forall_mem_cons.mpr ⟨ab_hk_none rfl, List.forall_mem_cons.mpr ⟨ab_hk54, List.forall_mem_cons.mpr ⟨ab_hk_none rfl, List.forall_mem_cons.mpr ⟨ab_hk56, List.forall_mem_cons.mpr ⟨ab_hk_none rfl, List.forall_mem_cons.mpr ⟨ab_hk58, List.forall_mem_cons.mpr ⟨ab_hk_none rfl, List.forall_mem_cons.mpr ⟨ab_hk60, List.forall_mem_cons.mpr ⟨ab_hk_none rfl, List.forall_mem_cons.mpr ⟨ab_hk62, List.forall_mem_cons.mpr ⟨ab_hk_none rfl, List.forall_mem_cons.mpr ⟨ab_hk64, List.forall_mem_cons.mpr ⟨ab_hk_none rfl, List.forall_mem_cons.mpr ⟨ab_hk66, List.forall_mem_cons.mpr ⟨ab_hk_none rfl, List.forall_mem_cons.mpr ⟨ab_hk68, List.forall_mem_cons.mpr ⟨ab_hk_none rfl, List.forall_mem_cons.mpr ⟨ab_hk70, List.forall_mem_cons.mpr ⟨ab_hk_none rfl, List.forall_mem_cons.mpr ⟨ab_hk72, List.forall_mem_cons.mpr ⟨ab_hk_none rfl, List.forall_mem_cons.mpr ⟨ab_hk74, List.forall_mem_cons.mpr ⟨ab_hk_none rfl, List.forall_mem_cons.mpr ⟨ab_hk76, List.forall_mem_cons.mpr ⟨ab_hk_none rfl, List.forall_mem_cons.mpr ⟨ab_hk78, List.forall_mem_cons.mpr ⟨ab_hk_none rfl, List.forall_mem_cons.mpr ⟨ab_hk80, List.forall_mem_cons.mpr ⟨ab_hk_none rfl, List.forall_mem_cons.mpr ⟨ab_hk82, List.forall_mem_cons.mpr ⟨ab_hk_none rfl, List.forall_mem_cons.mpr ⟨ab_hk84, List.forall_mem_cons.mpr ⟨ab_hk_none rfl, List.forall_mem_cons.mpr ⟨ab_hk_none rfl, List.forall_mem_cons.mpr ⟨ab_hk_none rfl, List.forall_mem_cons.mpr ⟨ab_hk_none rfl, List.forall_mem_cons.mpr ⟨ab_hk_none rfl, List.forall_mem_cons.mpr ⟨ab_hk_none rfl, List.forall_mem_cons.mpr ⟨ab_hk_none rfl, List.forall_mem_cons.mpr ⟨ab_hk_none rfl, List.forall_mem_cons.mpr ⟨ab_hk_none rfl, List.forall_mem_cons.mpr ⟨ab_hk_none rfl, List.forall_mem_cons.mpr ⟨ab_hk_none rfl, List.forall_mem_cons.mpr ⟨ab_hk_none rfl, List.forall_mem_cons.mpr ⟨ab_hk_none rfl, List.forall_mem_cons.mpr ⟨ab_hk_none rfl, List.forall_mem_cons.mpr ⟨ab_hk_none rfl, List.forall_mem_cons.mpr ⟨ab_hk_none rfl, List.forall_mem_cons.mpr ⟨ab_hk_none rfl, List.forall_mem_cons.mpr ⟨ab_hk_none rfl, List.forall_mem_cons.mpr ⟨ab_hk_none rfl, List.forall_mem_cons.mpr ⟨ab_hk_none rfl, List.forall_mem_cons.mpr ⟨ab_hk_none rfl, List.forall_mem_cons.mpr ⟨ab_hk_none rfl, List.forall_mem_cons.mpr ⟨ab_hk_none rfl, List.forall_mem_cons.mpr ⟨ab_hk_none rfl, List.forall_mem_cons.mpr ⟨ab_hk_none rfl, List.forall_mem_cons.mpr ⟨ab_hk_none rfl, List.forall_mem_cons.mpr ⟨ab_hk_none rfl, List.forall_mem_cons.mpr ⟨ab_hk_none rfl, List.forall_mem_cons.mpr ⟨ab_hk_none rfl, List.forall_mem_cons.mpr ⟨ab_hk_none rfl, List.forall_mem_cons.mpr ⟨ab_hk_none rfl, List.forall_mem_cons.mpr ⟨ab_hk_none rfl, List.forall_mem_cons.mpr ⟨ab_hk_none rfl, List.forall_mem_cons.mpr ⟨ab_hk_none rfl, List.forall_mem_cons.mpr ⟨ab_hk_none rfl, List.forall_mem_cons.mpr ⟨ab_hk_none rfl, List.forall_mem_cons.mpr ⟨ab_hk_none rfl, List.forall_mem_cons.mpr ⟨ab_hk_none rfl, List.forall_mem_cons.mpr ⟨ab_hk_none rfl, List.forall_mem_cons.mpr ⟨ab_hk_none rfl, List.forall_mem_cons.mpr ⟨ab_hk_none rfl, List.forall_mem_cons.mpr ⟨ab_hk_none rfl, List.forall_mem_cons.mpr ⟨ab_hk_none rfl, List.forall_mem_cons.mpr ⟨ab_hk_none rfl, List.forall_mem_cons.mpr ⟨ab_hk_none rfl, List.forall_mem_cons.mpr ⟨ab_hk_none rfl, List.forall_mem_cons.mpr ⟨ab_hk_none rfl, List.forall_mem_cons.mpr ⟨ab_hk_none rfl, List.forall_mem_cons.mpr ⟨ab_hk_none rfl, List.forall_mem_cons.mpr ⟨ab_hk_none rfl, List.forall_mem_cons.mpr ⟨ab_hk_none rfl, List.forall_mem_cons.mpr ⟨ab_hk_none rfl, List.forall_mem_cons.mpr ⟨ab_hk_none rfl, List.forall_mem_cons.mpr ⟨ab_hk_none rfl, List.forall_mem_cons.mpr ⟨ab_hk_none rfl, List.forall_mem_cons.mpr ⟨ab_hk_none rfl, List.forall_mem_cons.mpr ⟨ab_hk_none rfl, List.forall_mem_cons.mpr ⟨ab_hk_none rfl, List.forall_mem_cons.mpr ⟨ab_hk_none rfl, List.forall_mem_cons.mpr ⟨ab_hk_none rfl, List.forall_mem_cons.mpr ⟨ab_hk_none rfl, List.forall_mem_cons.mpr ⟨ab_hk_none rfl, List.forall_mem_cons.mpr ⟨ab_hk_none rfl, List.forall_mem_cons.mpr ⟨ab_hk_none rfl, List.forall_mem_cons.mpr ⟨ab_hk_none rfl, List.forall_mem_cons.mpr ⟨ab_hk_none rfl, List.forall_mem_cons.mpr ⟨ab_hk_none rfl, List.forall_mem_cons.mpr ⟨ab_hk_none rfl, List.forall_mem_cons.mpr ⟨ab_hk_none rfl, List.forall_mem_cons.mpr ⟨ab_hk_none rfl, List.forall_mem_cons.mpr ⟨ab_hk_none rfl, List.forall_mem_cons.mpr ⟨ab_hk_none rfl, List.forall_mem_cons.mpr ⟨ab_hk_none rfl, List.forall_mem_cons.mpr ⟨ab_hk_none rfl, List.forall_mem_cons.mpr ⟨ab_hk_none rfl, List.forall_mem_cons.mpr ⟨ab_hk_none rfl, List.forall_mem_cons.mpr ⟨ab_hk_none rfl, List.forall_mem_cons.mpr ⟨ab_hk_none rfl, List.forall_mem_cons.mpr ⟨ab_hk_none rfl, List.forall_mem_cons.mpr ⟨ab_hk_none rfl, List.forall_mem_cons.mpr ⟨ab_hk_none rfl, List.forall_mem_cons.mpr ⟨ab_hk_none rfl, List.forall_mem_cons.mpr ⟨ab_hk_none rfl, List.forall_mem_cons.mpr ⟨ab_hk_none rfl, List.forall_mem_cons.mpr ⟨ab_hk_none rfl, List.forall_mem_cons.mpr ⟨ab_hk_none rfl, List.forall_mem_cons.mpr ⟨ab_hk_none rfl, List.forall_mem_cons.mpr ⟨ab_hk_none rfl, List.forall_mem_cons.mpr ⟨ab_hk_none rfl, List.forall_mem_cons.mpr ⟨ab_hk_none rfl, List.forall_mem_cons.mpr ⟨ab_hk_none rfl, List.forall_mem_cons.mpr ⟨ab_hk_none rfl, List.forall_mem_cons.mpr ⟨ab_hk_none rfl, List.forall_mem_cons.mpr ⟨ab_hk_none rfl, List.forall_mem_cons.mpr ⟨ab_hk_none rfl, List.forall_mem_cons.mpr ⟨ab_hk_none rfl, List.forall_mem_cons.mpr ⟨ab_hk_none rfl, List.forall_mem_cons.mpr ⟨ab_hk_none rfl, List.forall_mem_cons.mpr ⟨ab_hk_none rfl, List.forall_mem_cons.mpr ⟨ab_hk_none rfl, List.forall_mem_cons.mpr ⟨ab_hk_none rfl, List.forall_mem_cons.mpr ⟨ab_hk_none rfl, List.forall_mem_cons.mpr ⟨ab_hk_none rfl, List.forall_mem_cons.mpr ⟨ab_hk_none rfl, List.forall_mem_cons.mpr ⟨ab_hk_none rfl, List.forall_mem_cons.mpr ⟨ab_hk_none rfl, List.forall_mem_cons.mpr ⟨ab_hk_none rfl, List.forall_mem_cons.mpr ⟨ab_hk_none rfl, List.forall_mem_cons.mpr ⟨ab_hk_none rfl, List.forall_mem_cons.mpr ⟨ab_hk_none rfl, List.forall_mem_cons.mpr ⟨ab_hk_none rfl, List.forall_mem_cons.mpr ⟨ab_hk_none rfl, List.forall_mem_cons.mpr ⟨ab_hk_none rfl, List.forall_mem_cons.mpr ⟨ab_hk_none rfl, List.forall_mem_cons.mpr ⟨ab_hk_none rfl, List.forall_mem_cons.mpr ⟨ab_hk_none rfl, List.forall_mem_cons.mpr ⟨ab_hk_none rfl, List.forall_mem_cons.mpr ⟨ab_hk_none rfl, List.forall_mem_cons.mpr ⟨ab_hk_none rfl, List.forall_mem_cons.mpr ⟨ab_hk_none rfl, List.forall_mem_cons.mpr ⟨ab_hk_none rfl, List.forall_mem_cons.mpr ⟨ab_hk_none rfl, List.forall_mem_cons.mpr ⟨ab_hk_none rfl, List.forall_mem_cons.mpr ⟨ab_hk_none rfl, List.forall_mem_cons.mpr ⟨ab_hk_none rfl, List.forall_mem_cons.mpr ⟨ab_hk_none rfl, List.forall_mem_cons.mpr ⟨ab_hk_none rfl, List.forall_mem_cons.mpr ⟨ab_hk_none rfl, List.forall_mem_cons.mpr ⟨ab_hk_none rfl, List.forall_mem_cons.mpr ⟨ab_hk_none rfl, List.forall_mem_cons.mpr ⟨ab_hk_none rfl, List.forall_mem_cons.mpr ⟨ab_hk_none rfl, List.forall_mem_cons.mpr ⟨ab_hk_none rfl, List.forall_mem_cons.mpr ⟨ab_hk_none rfl, List.forall_mem_cons.mpr ⟨ab_hk_none rfl, List.forall_mem_cons.mpr ⟨ab_hk_none rfl, List.forall_mem_cons.mpr ⟨ab_hk_none rfl, List.forall_mem_cons.mpr ⟨ab_hk_none rfl, List.forall_mem_cons.mpr ⟨ab_hk_none rfl, List.forall_mem_cons.mpr ⟨ab_hk_none rfl, List.forall_mem_cons.mpr ⟨ab_hk_none rfl, List.forall_mem_cons.mpr ⟨ab_hk_none rfl, List.forall_mem_cons.mpr ⟨ab_hk_none rfl, List.forall_mem_cons.mpr ⟨ab_hk_none rfl, List.forall_mem_cons.mpr ⟨ab_hk_none rfl, List.forall_mem_cons.mpr ⟨ab_hk_none rfl, List.forall_mem_cons.mpr ⟨ab_hk_none rfl, List.forall_mem_cons.mpr ⟨ab_hk_none rfl, List.forall_mem_cons.mpr ⟨ab_hk_none rfl, List.forall_mem_cons.mpr ⟨ab_hk_none rfl, List.forall_mem_cons.mpr ⟨ab_hk_none rfl, List.forall_mem_cons.mpr ⟨ab_hk_none rfl, List.forall_mem_cons.mpr ⟨ab_hk_none rfl, List.forall_mem_cons.mpr ⟨ab_hk_none rfl, List.forall_mem_cons.mpr ⟨ab_hk_none rfl, List.forall_mem_cons.mpr ⟨ab_hk_none rfl, List.forall_mem_cons.mpr ⟨ab_hk_none rfl, List.forall_mem_cons.mpr ⟨ab_hk_none rfl, List.forall_mem_cons.mpr ⟨ab_hk_none rfl, List.forall_mem_cons.mpr ⟨ab_hk_none rfl, List.forall_mem_cons.mpr ⟨ab_hk_none rfl, List.forall_mem_cons.mpr ⟨ab_hk_none rfl, List.forall_mem_cons.mpr ⟨ab_hk_none rfl, List.forall_mem_cons.mpr ⟨ab_hk_none rfl, List.forall_mem_cons.mpr ⟨ab_hk_none rfl, List.forall_mem_cons.mpr ⟨ab_hk_none rfl, List.forall_mem_cons.mpr ⟨ab_hk_none rfl, List.forall_mem_cons.mpr ⟨ab_hk_none rfl, List.forall_mem_cons.mpr ⟨ab_hk_none rfl, List.forall_mem_cons.mpr ⟨ab_hk_none rfl, List.forall_mem_cons.mpr ⟨ab_hk_none rfl, List.forall_mem_cons.mpr ⟨ab_hk_none rfl, List.forall_mem_cons.mpr ⟨ab_hk_none rfl, List.forall_mem_cons.mpr ⟨ab_hk_none rfl, List.forall_mem_cons.mpr ⟨ab_hk_none rfl, List.forall_mem_cons.mpr ⟨ab_hk_none rfl, List.forall_mem_cons.mpr ⟨ab_hk_none rfl, List.forall_mem_cons.mpr ⟨ab_hk_none rfl, List.forall_mem_cons.mpr ⟨ab_hk_none rfl, List.forall_mem_cons.mpr ⟨ab_hk_none rfl, List.forall_mem_cons.mpr ⟨ab_hk_none rfl, List.forall_mem_cons.mpr ⟨ab_hk_none rfl, List.forall_mem_cons.mpr ⟨ab_hk_none rfl, List.forall_mem_cons.mpr ⟨ab_hk_none rfl, List.forall_mem_cons.mpr ⟨ab_hk_none rfl, List.forall_mem_cons.mpr ⟨ab_hk_none rfl, List.forall_mem_cons.mpr ⟨ab_hk_none rfl, List.forall_mem_cons.mpr ⟨ab_hk_none rfl, List.forall_mem_cons.mpr ⟨ab_hk_none rfl, List.forall_mem_cons.mpr ⟨ab_hk_none rfl, List.forall_mem_cons.mpr ⟨ab_hk_none rfl, List.forall_mem_cons.mpr ⟨ab_hk_none rfl, List.forall_mem_cons.mpr ⟨ab_hk_none rfl, List.forall_mem_cons.mpr ⟨ab_hk_none rfl, List.forall_mem_cons.mpr ⟨ab_hk_none rfl, List.forall_mem_cons.mpr ⟨ab_hk_none rfl, List.forall_mem_cons.mpr ⟨ab_hk_none rfl, List.forall_mem_cons.mpr ⟨ab_hk_none rfl, List.forall_mem_cons.mpr ⟨ab_hk_none rfl, List.forall_mem_cons.mpr ⟨ab_hk_none rfl, fun _ h => absurd h List.not_mem_nil⟩⟩⟩⟩⟩⟩⟩⟩⟩⟩⟩⟩⟩⟩⟩⟩⟩⟩⟩⟩⟩⟩⟩⟩⟩⟩⟩⟩⟩⟩⟩⟩⟩⟩⟩⟩⟩⟩⟩⟩⟩⟩⟩⟩⟩⟩⟩⟩⟩⟩⟩⟩⟩⟩⟩⟩⟩⟩⟩⟩⟩⟩⟩⟩⟩⟩⟩⟩⟩⟩⟩⟩⟩⟩⟩⟩⟩⟩⟩⟩⟩⟩⟩⟩⟩⟩⟩⟩⟩⟩⟩⟩⟩⟩⟩⟩⟩⟩⟩⟩⟩⟩⟩⟩⟩⟩⟩⟩⟩⟩⟩⟩⟩⟩⟩⟩⟩⟩⟩⟩⟩⟩⟩⟩⟩⟩⟩⟩⟩⟩⟩⟩⟩⟩⟩⟩⟩⟩⟩⟩⟩⟩⟩⟩⟩⟩⟩⟩⟩⟩⟩⟩⟩⟩⟩⟩⟩⟩⟩⟩⟩⟩⟩⟩⟩⟩⟩⟩⟩⟩⟩⟩⟩⟩⟩⟩⟩⟩⟩⟩⟩⟩⟩⟩⟩⟩⟩⟩⟩⟩⟩⟩⟩⟩⟩⟩⟩⟩⟩⟩⟩⟩⟩⟩⟩⟩⟩⟩⟩⟩⟩⟩⟩⟩⟩⟩⟩⟩⟩⟩⟩⟩⟩⟩⟩⟩⟩⟩⟩⟩⟩⟩⟩⟩⟩⟩⟩⟩⟩⟩⟩⟩⟩⟩⟩⟩⟩⟩⟩⟩⟩⟩⟩⟩⟩⟩⟩⟩⟩⟩⟩⟩⟩⟩⟩⟩⟩⟩⟩⟩⟩⟩⟩⟩⟩⟩⟩⟩⟩⟩⟩⟩⟩⟩⟩
theorem ab_allp : ∀ G ∈ ab_mtl, plainName G.1.cls = true := by decide +kernel
theorem ab_sound9 (K : ab_Kt) : ∀ (f M pc : Nat) (ls : ab_Ls) (st : List Value) (h : ab_H) (o : ab_O) (h' : ab_H), ab_run (ab_P9 K) ab_mx ab_hn f M pc ls st h = some (o, h') → ab_cl K ab_mt M pc ls st h o h' := by
  refine ab_sound (fun M pc => ?_) (fun M => ?_) (fun _ => rfl) (fun M => ?_)
  · exact ab_getD2 (Q := fun G c => ∀ pc, ab_OK K ab_mt G pc (c pc)) (by rfl) (ab_allk K) (fun _ => ab_fail_ok) M pc
  · exact ab_getD2 (Q := fun G c => ab_HOK G c) (by rfl) ab_allh (ab_hk_none rfl) M
  · unfold ab_mt
    by_cases h : M < ab_mtl.length
    · rw [List.getD_eq_getElem?_getD, List.getElem?_eq_getElem h]
      exact ab_allp _ (List.getElem_mem h)
    · rw [List.getD_eq_getElem?_getD, List.getElem?_eq_none (by omega)]
      exact (by decide +kernel : plainName ab_g0.1.cls = true)
