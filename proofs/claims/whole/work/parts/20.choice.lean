/-! a CHOICE: of all that are good the cheapest, of like ones the least -/
def CH (S : Nat → Prop) (c : Nat → Int) (z : Int) : Prop := (z = -1 ∧ ∀ u, ¬ S u) ∨ ∃ n : Nat, z = (n : Int) ∧ S n ∧ ∀ u, S u → c n < c u ∨ (c n = c u ∧ n ≤ u)
theorem ch_uniq {S : Nat → Prop} {c : Nat → Int} {z z' : Int} (h : CH S c z) (h' : CH S c z') : z = z' := by
  rcases h with ⟨rfl, h⟩ | ⟨n, rfl, h1, h2⟩
  · rcases h' with ⟨rfl, -⟩ | ⟨n, -, h1, -⟩
    · rfl
    · exact absurd h1 (h n)
  · rcases h' with ⟨-, h'⟩ | ⟨n', rfl, h1', h2'⟩
    · exact absurd h1 (h' n)
    · have a := h2 n' h1'
      have b := h2' n h1
      omega
theorem ch_congr {S S' : Nat → Prop} {c c' : Nat → Int} {z : Int} (hS : ∀ u, S u ↔ S' u) (hc : ∀ u, S u → c u = c' u) (h : CH S c z) : CH S' c' z := by
  rcases h with ⟨rfl, h⟩ | ⟨n, rfl, h1, h2⟩
  · exact Or.inl ⟨rfl, fun u hu => h u ((hS u).mpr hu)⟩
  · refine Or.inr ⟨n, rfl, (hS n).mp h1, fun u hu => ?_⟩
    rw [← hc n h1, ← hc u ((hS u).mpr hu)]
    exact h2 u ((hS u).mpr hu)
theorem ch_new {P P' : Nat → Prop} {c : Nat → Int} {z : Int} {n : Nat} (h : CH P c z) (hn : z = -1 ∨ ∃ m : Nat, z = (m : Int) ∧ c n < c m) (hP : ∀ u, P' u ↔ P u ∨ u = n) : CH P' c (n : Int) := by
  refine Or.inr ⟨n, rfl, (hP n).mpr (Or.inr rfl), fun u hu => ?_⟩
  rcases (hP u).mp hu with hu | rfl
  · rcases h with ⟨rfl, h⟩ | ⟨m, rfl, h1, h2⟩
    · exact absurd hu (h u)
    · rcases hn with hn | ⟨m', e, hn⟩
      · omega
      · have : m' = m := by omega
        subst this
        have := h2 u hu
        omega
  · exact Or.inr ⟨rfl, Nat.le_refl _⟩
theorem ch_keep {P P' : Nat → Prop} {c : Nat → Int} {z : Int} {n : Nat} (h : CH P c z) (hn : ∀ m : Nat, z = (m : Int) → c m ≤ c n) (h0 : ¬ z = -1) (hlt : ∀ u, P u → u < n) (hP : ∀ u, P' u ↔ P u ∨ u = n) : CH P' c z := by
  rcases h with ⟨rfl, h⟩ | ⟨m, rfl, h1, h2⟩
  · exact absurd rfl h0
  · refine Or.inr ⟨m, rfl, (hP m).mpr (Or.inl h1), fun u hu => ?_⟩
    rcases (hP u).mp hu with hu | rfl
    · exact h2 u hu
    · have := hn m rfl
      have := hlt m h1
      omega
theorem nx_ch {M : gM} {t o : Nat} {lo hi z : Int} (h : NX M t o (-1) lo hi z) : CH (fun u => sub u o ∧ fitW M t lo hi u) (fun _ => 0) z := by
  rcases h with ⟨rfl, h⟩ | ⟨n, rfl, h1, -, h3, h4⟩
  · exact Or.inl ⟨rfl, fun u hu => h u hu.1 (by omega) hu.2⟩
  · refine Or.inr ⟨n, rfl, ⟨h1, h3⟩, fun u hu => Or.inr ⟨rfl, ?_⟩⟩
    rcases Nat.lt_or_ge u n with h | h
    · exact absurd hu.2 (h4 u hu.1 (by omega) h)
    · exact h
def PB (M : gM) (t o : Nat) (lo hi b : Int) (u : Nat) : Prop := sub u o ∧ fitW M t lo hi u ∧ (b = -1 ∨ (u : Int) < b)
theorem pb_start {M : gM} {t o : Nat} {lo hi z : Int} {c : Nat → Int} (h : NX M t o (-1) lo hi z) : CH (PB M t o lo hi z) c (-1) := by
  refine Or.inl ⟨rfl, fun u hu => ?_⟩
  obtain ⟨h1, h2, h3⟩ := hu
  rcases h with ⟨rfl, h⟩ | ⟨n, rfl, -, -, -, h4⟩
  · exact h u h1 (by omega) h2
  · exact h4 u h1 (by omega) (by omega) h2
theorem pb_step {M : gM} {t o n : Nat} {lo hi z : Int} (hn : sub n o ∧ fitW M t lo hi n) (h : NX M t o (n : Int) lo hi z) (u : Nat) : PB M t o lo hi z u ↔ PB M t o lo hi (n : Int) u ∨ u = n := by
  constructor
  · rintro ⟨h1, h2, h3⟩
    rcases Nat.lt_trichotomy u n with a | a | a
    · exact Or.inl ⟨h1, h2, Or.inr (by omega)⟩
    · exact Or.inr a
    · rcases h with ⟨rfl, h⟩ | ⟨m, rfl, -, -, -, h4⟩
      · exact absurd h2 (h u h1 (by omega))
      · exact absurd h2 (h4 u h1 (by omega) (by omega))
  · rintro (⟨h1, h2, h3⟩ | rfl)
    · refine ⟨h1, h2, ?_⟩
      rcases h with ⟨rfl, h⟩ | ⟨m, rfl, -, ha, -, h4⟩
      · exact Or.inl rfl
      · exact Or.inr (by omega)
    · refine ⟨hn.1, hn.2, ?_⟩
      rcases h with ⟨rfl, h⟩ | ⟨m, rfl, -, ha, -, h4⟩
      · exact Or.inl rfl
      · exact Or.inr (by omega)
def worthS (M : gM) (t u : Nat) : Int := wsum (woF M t) (M.1 t 1).toInt.toNat u
def costS (M : gM) (t p u : Nat) : Int := if (M.1 (t + 1) p).toInt = 1 then worthS M t u else popc u
def rankS (M : gM) (t p u : Nat) : Int := if (M.1 (t + 1) p).toInt = 1 then worthS M t u else if (M.1 (t + 1) p).toInt = 2 then popc u else 0
def fitS (M : gM) (t p u : Nat) : Prop := may M t p ∧ sub u (has M t p) ∧ fitW M t (lgt M t p - (M.1 (t + 3) p).toInt) (hvy M t p) u
def selS (M : gM) (t p u : Nat) : Prop := fitS M t p u ∧ ((M.1 (t + 1) p).toInt = 3 → u.testBit (M.1 (t + 2) p).toInt.toNat = false) ∧ ¬ waitsP M t p
def chosen (M : gM) (t p : Nat) (z : Int) : Prop := CH (selS M t p) (rankS M t p) z
theorem sub_nd {u a g : Nat} : sub u (nd a (2 ^ g)) ↔ sub u a ∧ u.testBit g = false := by
  constructor
  · intro h
    refine ⟨fun i hi => ?_, ?_⟩
    · have := h i hi
      rw [nd_bit] at this
      simp only [Bool.and_eq_true] at this
      exact this.1
    · cases hu : u.testBit g
      · rfl
      · have := h g hu
        rw [nd_bit, Nat.testBit_two_pow] at this
        simp at this
  · rintro ⟨h1, h2⟩ i hi
    rw [nd_bit, h1 i hi, Nat.testBit_two_pow]
    by_cases h : g = i
    · subst h; rw [h2] at hi; cases hi
    · simp [h]
theorem ch_nextN {M : gM} {t o n : Nat} {lo hi b z : Int} {c : Nat → Int} (h : CH (PB M t o lo hi (n : Int)) c b) (hs : sub n o ∧ fitW M t lo hi n) (hz : NX M t o (n : Int) lo hi z) (hn : ∀ m : Nat, b = (m : Int) → c n < c m) : CH (PB M t o lo hi z) c (n : Int) := by
  refine ch_new h ?_ (pb_step hs hz)
  rcases h with ⟨h, -⟩ | ⟨m, h, -⟩
  · exact Or.inl h
  · exact Or.inr ⟨m, h, hn m h⟩
theorem ch_nextK {M : gM} {t o n : Nat} {lo hi b z : Int} {c : Nat → Int} (h : CH (PB M t o lo hi (n : Int)) c b) (hs : sub n o ∧ fitW M t lo hi n) (hz : NX M t o (n : Int) lo hi z) (h0 : ¬ b = -1) (hn : ∀ m : Nat, b = (m : Int) → c m ≤ c n) : CH (PB M t o lo hi z) c b :=
  ch_keep h hn h0 (fun u hu => by have := hu.2.2; omega) (pb_step hs hz)
theorem nx_next {M : gM} {t o : Nat} {a lo hi z : Int} (ha : -1 ≤ a) (h : NX M t o a lo hi z) : -1 ≤ z ∧ (¬ z = -1 → a < z) ∧ ∀ n : Nat, z = (n : Int) → sub n o ∧ fitW M t lo hi n := by
  rcases h with ⟨rfl, h⟩ | ⟨m, rfl, h1, h2, h3, -⟩
  · exact ⟨by omega, fun h => absurd rfl h, fun n hn => by omega⟩
  · refine ⟨by omega, fun _ => h2, fun n hn => ?_⟩
    have : n = m := by omega
    subst this
    exact ⟨h1, h3⟩
