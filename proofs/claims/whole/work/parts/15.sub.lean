/-! subsets as bits, and the step to the next one -/
def sub (u o : Nat) : Prop := ∀ i, u.testBit i = true → o.testBit i = true
theorem sub_le {u o : Nat} (h : sub u o) : u ≤ o := by
  have : u = u &&& o := by
    refine Nat.eq_of_testBit_eq fun i => ?_
    rw [Nat.testBit_and]
    cases hu : u.testBit i
    · rfl
    · rw [h i hu]; rfl
  rw [this]; exact Nat.and_le_right
theorem sub_mod {u o : Nat} (h : sub u o) (k : Nat) : sub (u % 2 ^ k) (o % 2 ^ k) := fun i hi => by
  rw [Nat.testBit_mod_two_pow] at hi ⊢
  simp only [Bool.and_eq_true, decide_eq_true_eq] at hi ⊢
  exact ⟨hi.1, h i hi.2⟩
theorem sub_refl (o : Nat) : sub o o := fun _ h => h
theorem sub_zero (o : Nat) : sub 0 o := fun i h => by simp at h
theorem low_ex : ∀ D : Nat, 0 < D → ∃ k j, D = 2 ^ k * (2 * j + 1) := by
  intro D
  induction D using Nat.strongRecOn with
  | ind D ih =>
    intro h
    rcases Nat.mod_two_eq_zero_or_one D with h2 | h2
    · obtain ⟨k, j, e⟩ := ih (D / 2) (by omega) (by omega)
      exact ⟨k + 1, j, by rw [Nat.pow_succ, Nat.mul_comm (2 ^ k) 2, Nat.mul_assoc, ← e]; omega⟩
    · exact ⟨0, D / 2, by simp; omega⟩
theorem stp_eq {o s : Nat} (ho : o < 4294967296) (hs : sub s o) : stp o s = (4294967296 - nd o s) % 4294967296 &&& o := by
  have hD : nd o s < 4294967296 := Nat.lt_of_le_of_lt (nd_le o s) ho
  have e : s ||| (o ^^^ 4294967295) = 2 ^ 32 - (nd o s + 1) := by
    refine Nat.eq_of_testBit_eq fun i => ?_
    rw [Nat.testBit_two_pow_sub_succ hD, Nat.testBit_or, Nat.testBit_xor, nd_bit, show (4294967295 : Nat) = 2 ^ 32 - 1 from rfl, Nat.testBit_two_pow_sub_one]
    by_cases h : i < 32
    · simp [h]
      cases hsi : s.testBit i
      · cases o.testBit i <;> rfl
      · rw [hs i hsi]; rfl
    · have ho2 : o.testBit i = false := Nat.testBit_lt_two_pow (Nat.lt_of_lt_of_le ho (Nat.pow_le_pow_right (by decide) (by omega : 32 ≤ i) : 2 ^ 32 ≤ 2 ^ i))
      have hs2 : s.testBit i = false := by
        cases hsi : s.testBit i
        · rfl
        · rw [hs i hsi] at ho2; cases ho2
      simp [h, ho2, hs2]
  rw [stp, e]
  congr 1
  have : (2 : Nat) ^ 32 = 4294967296 := rfl
  omega
theorem stp_all {o : Nat} (ho : o < 4294967296) : stp o o = 0 := by
  rw [stp_eq ho (sub_refl o)]
  have : nd o o = 0 := by simp [nd]
  rw [this]; simp
theorem stp_next {o s : Nat} (ho : o < 4294967296) (hs : sub s o) (hne : s ≠ o) : ∃ k, stp o s = 2 ^ k * (s / 2 ^ k + 1) ∧ o.testBit k = true ∧ s.testBit k = false ∧ s % 2 ^ k = o % 2 ^ k := by
  have hD0 : 0 < nd o s := by
    rcases Nat.eq_zero_or_pos (nd o s) with h | h
    · refine absurd ?_ hne
      refine Nat.eq_of_testBit_eq fun i => ?_
      have := nd_bit o s i
      rw [h, Nat.zero_testBit] at this
      cases hsi : s.testBit i
      · rw [hsi] at this
        cases hoi : o.testBit i
        · rfl
        · rw [hoi] at this; cases this
      · rw [hs i hsi]
    · exact h
  obtain ⟨k, j, e⟩ := low_ex _ hD0
  have hDk : ∀ i, (nd o s).testBit i = if i < k then false else (2 * j + 1).testBit (i - k) := fun i => by
    rw [e, Nat.testBit_two_pow_mul]
    by_cases h : i < k
    · simp [h]; intro; omega
    · simp [h]; intro; omega
  have e1 : nd o s - 1 = 2 ^ k * (2 * j) + (2 ^ k - 1) := by
    have : 0 < 2 ^ k := Nat.two_pow_pos k
    rw [e, Nat.mul_add, Nat.mul_one]; omega
  have hk0 := hDk k
  rw [if_neg (by omega), Nat.sub_self, nd_bit] at hk0
  have h21 : (2 * j + 1).testBit 0 = true := by simp
  rw [h21] at hk0
  simp only [Bool.and_eq_true, Bool.not_eq_true'] at hk0
  have hlow : ∀ i, i < k → s.testBit i = o.testBit i := fun i hi => by
    have := hDk i
    rw [if_pos hi, nd_bit] at this
    cases hsi : s.testBit i
    · rw [hsi] at this; cases hoi : o.testBit i
      · rfl
      · rw [hoi] at this; cases this
    · rw [hs i hsi]
  refine ⟨k, ?_, hk0.1, hk0.2, ?_⟩
  · rw [stp_eq ho hs]
    have hlt : nd o s ≤ o := nd_le o s
    rw [Nat.mod_eq_of_lt (by omega)]
    refine Nat.eq_of_testBit_eq fun i => ?_
    rw [Nat.testBit_and, show 4294967296 - nd o s = 2 ^ 32 - (nd o s - 1 + 1) by have : (2 : Nat) ^ 32 = 4294967296 := rfl; omega, Nat.testBit_two_pow_sub_succ (by have : (2 : Nat) ^ 32 = 4294967296 := rfl; omega), e1, Nat.testBit_two_pow_mul_add _ (by have := Nat.two_pow_pos k; omega), Nat.testBit_two_pow_mul]
    have hbig : ¬ i < 32 → o.testBit i = false := fun h => Nat.testBit_lt_two_pow (Nat.lt_of_lt_of_le ho (Nat.pow_le_pow_right (by decide) (by omega : 32 ≤ i) : 2 ^ 32 ≤ 2 ^ i))
    by_cases h1 : i < k
    · rw [if_pos h1, Nat.testBit_two_pow_sub_one]
      simp [h1]; intro; omega
    · rw [if_neg h1]
      have hs0 : s / 2 ^ k % 2 = 0 := by
        have := hk0.2
        rw [Nat.testBit_eq_decide_div_mod_eq] at this
        simp at this; omega
      obtain ⟨hh, ehh⟩ : ∃ hh, s / 2 ^ k = 2 * hh := ⟨s / 2 ^ k / 2, by omega⟩
      by_cases h2 : i = k
      · subst h2
        have hi32 : i < 32 := by
          rcases Nat.lt_or_ge i 32 with h | h
          · exact h
          · have := hbig (by omega); rw [hk0.1] at this; cases this
        rw [ehh]
        simp [hk0.1, hi32]
      · obtain ⟨m, em⟩ : ∃ m, i = k + (m + 1) := ⟨i - k - 1, by omega⟩
        have hsi : (s / 2 ^ k + 1).testBit (i - k) = s.testBit i := by
          have ht : s.testBit (k + (m + 1)) = (s / 2 ^ k).testBit (m + 1) := by rw [Nat.add_comm]; exact (Nat.testBit_div_two_pow s (m + 1)).symm
          rw [em, show k + (m + 1) - k = m + 1 by omega, ht, ehh, Nat.testBit_succ, Nat.testBit_succ]
          congr 1; omega
        rw [hsi]
        have hDi := hDk i
        rw [if_neg h1, nd_bit] at hDi
        have hj : (2 * j + 1).testBit (i - k) = (2 * j).testBit (i - k) := by
          rw [em, show k + (m + 1) - k = m + 1 by omega, Nat.testBit_succ, Nat.testBit_succ]
          congr 1; omega
        rw [hj] at hDi
        rw [← hDi]
        have hge : (i ≥ k) := by omega
        simp only [hge, decide_true, Bool.true_and]
        by_cases h32 : i < 32
        · simp [h32]
          cases hsi : s.testBit i
          · cases o.testBit i <;> rfl
          · rw [hs i hsi]; rfl
        · have := hbig h32
          have hs2 : s.testBit i = false := by
            cases hsi : s.testBit i
            · rfl
            · rw [hs i hsi] at this; cases this
          simp [this, hs2]
  · refine Nat.eq_of_testBit_eq fun i => ?_
    rw [Nat.testBit_mod_two_pow, Nat.testBit_mod_two_pow]
    by_cases h : i < k
    · simp [h, hlow i h]
    · simp [h]
theorem stp_gt {o s : Nat} (ho : o < 4294967296) (hs : sub s o) (hne : s ≠ o) : s < stp o s := by
  obtain ⟨k, e, -, -, -⟩ := stp_next ho hs hne
  rw [e, Nat.mul_add, Nat.mul_one]
  have := Nat.div_add_mod s (2 ^ k)
  have := Nat.mod_lt s (Nat.two_pow_pos k)
  omega
theorem stp_sub (o s : Nat) : sub (stp o s) o := fun i h => by
  rw [stp, Nat.testBit_and] at h
  simp only [Bool.and_eq_true] at h
  exact h.2
theorem stp_least {o s u : Nat} (ho : o < 4294967296) (hs : sub s o) (hu : sub u o) (h : s < u) : stp o s ≤ u := by
  have hne : s ≠ o := fun e => by have := sub_le hu; omega
  obtain ⟨k, e, -, -, hm⟩ := stp_next ho hs hne
  have h1 : s / 2 ^ k ≤ u / 2 ^ k := Nat.div_le_div_right (by omega)
  have h2 : s / 2 ^ k ≠ u / 2 ^ k := fun he => by
    have a1 := Nat.div_add_mod s (2 ^ k)
    have a2 := Nat.div_add_mod u (2 ^ k)
    have a3 := sub_le (sub_mod hu k)
    rw [he] at a1
    omega
  rw [e]
  have a2 := Nat.div_add_mod u (2 ^ k)
  have h3 : s / 2 ^ k + 1 ≤ u / 2 ^ k := by omega
  have := Nat.mul_le_mul_left (2 ^ k) h3
  omega
theorem stp_ne {o s : Nat} (ho : o < 4294967296) (hs : sub s o) (h : stp o s ≠ 0) : s ≠ o := fun e => by subst e; exact h (stp_all ho)
/-- the lowest bit, and what lies below it -/
theorem low_bit {s : Nat} (hs : s < 4294967296) (h0 : 0 < s) : ∃ k, s &&& (4294967296 - s) = 2 ^ k ∧ s % 2 ^ k = 0 ∧ s.testBit k = true := by
  obtain ⟨k, j, e⟩ := low_ex s h0
  have e1 : s - 1 = 2 ^ k * (2 * j) + (2 ^ k - 1) := by
    have : 0 < 2 ^ k := Nat.two_pow_pos k
    rw [e, Nat.mul_add, Nat.mul_one]; omega
  have hb : ∀ i, s.testBit i = (decide (k ≤ i) && (2 * j + 1).testBit (i - k)) := fun i => by rw [e, Nat.testBit_two_pow_mul]
  refine ⟨k, ?_, by rw [e]; exact Nat.mul_mod_right _ _, by rw [hb]; simp⟩
  refine Nat.eq_of_testBit_eq fun i => ?_
  rw [Nat.testBit_and, show 4294967296 - s = 2 ^ 32 - (s - 1 + 1) by have : (2 : Nat) ^ 32 = 4294967296 := rfl; omega, Nat.testBit_two_pow_sub_succ (by have : (2 : Nat) ^ 32 = 4294967296 := rfl; omega), e1, Nat.testBit_two_pow_mul_add _ (by have := Nat.two_pow_pos k; omega), Nat.testBit_two_pow, hb]
  by_cases h1 : i < k
  · have : ¬ k ≤ i := by omega
    have h2 : ¬ k = i := by omega
    simp [this, h2]
  · rw [if_neg h1]
    by_cases h2 : k = i
    · subst h2
      have hk : k < 32 := by
        rcases Nat.lt_or_ge k 32 with h | h
        · exact h
        · have h3 : s.testBit k = true := by rw [hb]; simp
          rw [Nat.testBit_lt_two_pow (Nat.lt_of_lt_of_le hs (Nat.pow_le_pow_right (by decide) h : 2 ^ 32 ≤ 2 ^ k))] at h3
          cases h3
      simp [hk]
    · obtain ⟨m, em⟩ : ∃ m, i = k + (m + 1) := ⟨i - k - 1, by omega⟩
      rw [em, show k + (m + 1) - k = m + 1 by omega, Nat.testBit_succ, Nat.testBit_succ, show (2 * j + 1) / 2 = 2 * j / 2 by omega]
      simp only [show ¬ k = k + (m + 1) by omega, decide_false]
      cases (2 * j / 2).testBit m <;> simp
/-- the weight of a set out of its part below k and the rest -/
theorem wsum_cut {w : Nat → Int} {u v k : Nat} (hk : k ≤ 12) (h : ∀ i, k ≤ i → u.testBit i = v.testBit i) : wsum w 12 u - wsum w k u = wsum w 12 v - wsum w k v := by
  obtain ⟨n, e⟩ : ∃ n, 12 = k + n := ⟨12 - k, by omega⟩
  rw [e, wsum_split, wsum_split]
  have : u >>> k = v >>> k := Nat.eq_of_testBit_eq fun i => by rw [Nat.testBit_shiftRight, Nat.testBit_shiftRight, h _ (by omega)]
  rw [this]; omega
theorem wsum_mono {w : Nat → Int} {n u v : Nat} (hw : ∀ i, i < n → 0 ≤ w i) (h : ∀ i, i < n → u.testBit i = true → v.testBit i = true) : wsum w n u ≤ wsum w n v := by
  induction n with
  | zero => exact Int.le_refl _
  | succ n ih =>
    have := ih (fun i hi => hw i (by omega)) (fun i hi => h i (by omega))
    have h1 := hw n (by omega)
    rw [wsum, wsum]
    by_cases hu : u.testBit n = true
    · rw [if_pos hu, if_pos (h n (by omega) hu)]; omega
    · rw [if_neg hu]; split <;> omega
theorem wsum_none {w : Nat → Int} {n u : Nat} (h : ∀ i, i < n → u.testBit i = false) : wsum w n u = 0 := by
  induction n with
  | zero => rfl
  | succ n ih => rw [wsum, ih (fun i hi => h i (by omega)), h n (by omega)]; simp
theorem wsum_congr {w : Nat → Int} {n u v : Nat} (h : ∀ i, i < n → u.testBit i = v.testBit i) : wsum w n u = wsum w n v := by
  induction n with
  | zero => rfl
  | succ n ih => rw [wsum, wsum, ih (fun i hi => h i (by omega)), h n (by omega)]
