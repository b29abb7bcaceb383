/-! the least set above another one that fits: what it is -/
theorem bn_neg (x : Int32) : bn (-x) = (4294967296 - bn x) % 4294967296 := by simp [bn, BitVec.toNat_neg]
theorem bn_sub (x y : Int32) : bn (x - y) = (4294967296 - bn y + bn x) % 4294967296 := by simp [bn, BitVec.toNat_sub]
def fitW (M : gM) (t : Nat) (lo hi : Int) (u : Nat) : Prop := lo ≤ wt M t u ∧ wt M t u ≤ hi
def NX (M : gM) (t o : Nat) (a lo hi z : Int) : Prop := (z = -1 ∧ ∀ u : Nat, sub u o → a < (u : Int) → ¬ fitW M t lo hi u) ∨ (∃ n : Nat, z = (n : Int) ∧ sub n o ∧ a < (n : Int) ∧ fitW M t lo hi n ∧ ∀ u : Nat, sub u o → a < (u : Int) → u < n → ¬ fitW M t lo hi u)
theorem nx_done {M : gM} {t o v : Nat} {a lo hi : Int} (ho : o < 4294967296) (hv : sub v o) (h0 : stp o v = 0) (hno : ∀ u : Nat, sub u o → a < (u : Int) → u ≤ v → ¬ fitW M t lo hi u) : NX M t o a lo hi (-1) := by
  refine Or.inl ⟨rfl, fun u hu ha => ?_⟩
  by_cases h : u ≤ v
  · exact hno u hu ha h
  · have hne : v ≠ o := fun e => by have := sub_le hu; omega
    have := stp_gt ho hv hne
    omega
theorem nx_step {M : gM} {t o v : Nat} {a lo hi : Int} (ho : o < 4294967296) (hv : sub v o) (h0 : ¬ stp o v = 0) (hno : ∀ u : Nat, sub u o → a < (u : Int) → u ≤ v → ¬ fitW M t lo hi u) : v < stp o v ∧ ∀ u : Nat, sub u o → a < (u : Int) → u < stp o v → ¬ fitW M t lo hi u := by
  refine ⟨stp_gt ho hv (stp_ne ho hv h0), fun u hu ha hlt => ?_⟩
  by_cases h : u ≤ v
  · exact hno u hu ha h
  · have := stp_least ho hv hu (by omega)
    omega
/-- b: what of o lies below all of s -/
def belP (o s b : Nat) : Prop := (s = 0 ∧ b = o) ∨ ∃ k, s % 2 ^ k = 0 ∧ s.testBit k = true ∧ b = o % 2 ^ k
theorem bel_spec {o s : Nat} (ho : o < 4096) (hs : sub s o) : belP o s (o &&& ((4294967296 - 1 + (s &&& ((4294967296 - s) % 4294967296))) % 4294967296)) := by
  have hle := sub_le hs
  rcases Nat.eq_zero_or_pos s with h | h
  · subst h
    refine Or.inl ⟨rfl, ?_⟩
    rw [Nat.zero_and, show (4294967296 - 1 + 0) % 4294967296 = 2 ^ 32 - 1 from rfl, Nat.and_two_pow_sub_one_eq_mod]
    exact Nat.mod_eq_of_lt (by have : (2 : Nat) ^ 32 = 4294967296 := rfl; omega)
  · obtain ⟨k, e, h1, h2⟩ := low_bit (s := s) (by omega) h
    refine Or.inr ⟨k, h1, h2, ?_⟩
    have hk : 2 ^ k ≤ s := by
      have := Nat.ge_two_pow_of_testBit h2
      omega
    have hp := Nat.two_pow_pos k
    rw [Nat.mod_eq_of_lt (by omega : 4294967296 - s < 4294967296), e, show (4294967296 - 1 + 2 ^ k) % 4294967296 = 2 ^ k - 1 by omega, Nat.and_two_pow_sub_one_eq_mod]
theorem bel_row {M : gM} {t o s b : Nat} (hB : TB M t) (ho : o < 4096) (hs : sub s o) (hb : belP o s b) : sub b o ∧ sub (s ||| b) o ∧ s ≤ (s ||| b) ∧ ∀ u, sub u o → s ≤ u → u ≤ (s ||| b) → wt M t s ≤ wt M t u ∧ wt M t u ≤ wt M t s + wt M t b := by
  have hw : ∀ i, i < 12 → 0 ≤ wtF M t i := fun i hi => (hB.2.2.1 i hi).1.1
  have hbo : sub b o := by
    rcases hb with ⟨-, rfl⟩ | ⟨k, -, -, rfl⟩
    · exact sub_refl _
    · intro i hi
      rw [Nat.testBit_mod_two_pow] at hi
      simp only [Bool.and_eq_true] at hi
      exact hi.2
  refine ⟨hbo, fun i hi => ?_, Nat.left_le_or, fun u hu h1 h2 => ?_⟩
  · rw [Nat.testBit_or] at hi
    simp only [Bool.or_eq_true] at hi
    exact hi.elim (hs i) (hbo i)
  · rcases hb with ⟨rfl, rfl⟩ | ⟨k, e1, e2, rfl⟩
    · have e0 : wt M t 0 = 0 := wsum_none (fun i _ => by simp)
      rw [e0]
      refine ⟨(wt_rng hB).1, ?_⟩
      rw [Int.zero_add]
      exact wsum_mono hw (fun i _ h => hu i h)
    · have hk : k < 12 := by
        have h3 := Nat.ge_two_pow_of_testBit e2
        have h4 := sub_le hs
        rcases Nat.lt_or_ge k 12 with h | h
        · exact h
        · have := Nat.pow_le_pow_right (n := 2) (by decide) h
          have : (2 : Nat) ^ 12 = 4096 := rfl
          omega
      have hp := Nat.two_pow_pos k
      have hor : s ||| o % 2 ^ k = s + o % 2 ^ k := by
        have a1 := Nat.div_add_mod s (2 ^ k)
        rw [e1, Nat.add_zero] at a1
        rw [← a1, Nat.two_pow_add_eq_or_of_lt (Nat.mod_lt o hp)]
      rw [hor] at h2
      have hdiv : u / 2 ^ k = s / 2 ^ k := by
        have a1 := Nat.div_add_mod s (2 ^ k)
        have a2 := Nat.div_add_mod u (2 ^ k)
        have a3 := Nat.mod_lt o hp
        have a4 := Nat.mod_lt u hp
        have a5 : s / 2 ^ k ≤ u / 2 ^ k := Nat.div_le_div_right h1
        rcases Nat.lt_or_ge (s / 2 ^ k) (u / 2 ^ k) with h | h
        · have := Nat.mul_le_mul_left (2 ^ k) (show s / 2 ^ k + 1 ≤ u / 2 ^ k from h)
          rw [Nat.mul_add, Nat.mul_one] at this
          omega
        · omega
      have hbits : ∀ i, k ≤ i → u.testBit i = s.testBit i := fun i hi => by
        have ht : ∀ x : Nat, x.testBit i = (x / 2 ^ k).testBit (i - k) := fun x => by
          rw [Nat.testBit_div_two_pow]; congr 1; omega
        rw [ht u, ht s, hdiv]
      have c1 := wsum_cut (w := wtF M t) (k := k) (by omega) hbits
      have c2 : wsum (wtF M t) k s = 0 := wsum_none (fun i hi => by
        have := congrArg (fun x => x.testBit i) e1
        simp only [Nat.testBit_mod_two_pow, Nat.zero_testBit, hi, decide_true, Bool.true_and] at this
        exact this)
      have c3 : wsum (wtF M t) k u ≤ wsum (wtF M t) k (o % 2 ^ k) := wsum_mono (fun i hi => hw i (by omega)) (fun i hi h => by
        rw [Nat.testBit_mod_two_pow]; simp [hi, hu i h])
      have c4 := wsum_cut (w := wtF M t) (u := o % 2 ^ k) (v := 0) (k := k) (by omega) (fun i hi => by
        rw [Nat.testBit_mod_two_pow, Nat.zero_testBit]
        have : ¬ i < k := by omega
        simp [this])
      have c5 : wsum (wtF M t) k 0 = 0 := wsum_none (fun i _ => by simp)
      have c6 : wsum (wtF M t) 12 0 = 0 := wsum_none (fun i _ => by simp)
      have c7 : 0 ≤ wsum (wtF M t) k u := by
        have := wsum_mono (w := wtF M t) (n := k) (u := 0) (v := u) (fun i hi => hw i (by omega)) (fun i _ h => by simp at h)
        omega
      simp only [wt]
      omega
