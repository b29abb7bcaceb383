theorem keepK_uniq {n : Int} {K K' : Nat} (h : keepK n K) (h' : keepK n K') : K = K' := by
  have aux : ∀ K K' : Nat, keepK n K → keepK n K' → ¬ K < K' := fun K K' h h' hl => by
    obtain ⟨h1, h2, h3, h4⟩ := h
    obtain ⟨g1, g2, g3, g4⟩ := h'
    have e : (2 : Int) ^ K ≤ (2 : Int) ^ (K' - 1) := by
      have : 2 ^ K ≤ 2 ^ (K' - 1) := Nat.pow_le_pow_right (by decide) (by omega)
      exact_mod_cast this
    omega
  have a1 := aux K K' h h'
  have a2 := aux K' K h' h
  omega
section OB
variable {b : Nat} {Γ : gW} {gt : Option Nat} {M : gM} {A : gAb} {n : Nat}
theorem o_choice (hL : LW b Γ gt M) (hC : RC A M) (hR : RR A M) (hn : AOK A n) {p w : Int32} : OH b Γ gt n yL_choice μL_choice hhL_choice [.ref 0, .int p, .int w, .ref 500] yX6_choice μX6_choice [.ref 300, .int p, .int w] M :=
  o_rg hL hC hR hn (d := 5) (by decide) (h_choice hL.1 hL.2.2.2.1 (by decide) (x_choice hL.1 hC.1.1 (hC.tb hn)) (fun E M' h => h.1)) Iff.rfl (fun z M1 h => ⟨h.1 ▸ FC.rf, h.2.1, h.2.2⟩) (fun M1 h => ⟨h.2.1, h.2.2⟩) (d2 := 4) (by decide) (fun M1 h1 => r_choice hL.2.1 hn.1.1 h1.1.1) (qz := fun z => (chosenT A.1.1 p.toInt.toNat (-1) ∧ z.toInt = -1) ∨ ∃ n : Nat, chosenT A.1.1 p.toInt.toNat (n : Int) ∧ z.toInt = if w.toInt = 0 then (n : Int) else if w.toInt = 1 then sandT A.1.1 p.toInt.toNat n else takerT A.1.1 p.toInt.toNat) (fun M1 z M2 hr h => by
    rcases h with ⟨a1, -, a3⟩ | ⟨a1, a2, a3⟩
    · exact Or.inl ⟨a1, a3⟩
    · exact Or.inr ⟨a1, a2 ▸ FR.c, by rw [a2]; exact code_at, a3⟩) (fun z z2 _ h1 h2 => by
    rcases h1 with ⟨u1, u2⟩ | ⟨m, u1, u2⟩ <;> rcases h2 with ⟨v1, v2⟩ | ⟨m', v1, v2⟩
    · exact i32_eq u2 v2
    · have := CH_uniq u1 v1; omega
    · have := CH_uniq u1 v1; omega
    · have := CH_uniq u1 v1
      have e : m = m' := by omega
      subst e
      exact i32_eq u2 v2)
theorem nse_ne : ¬ (nNSE = nIAE) := by decide
theorem o_keep (hL : LW b Γ gt M) (hC : RC A M) (hR : RR A M) (hn : AOK A n) {m i : Int32} : OH b Γ gt n yL_keep μL_keep hhL_keep [.ref 0, .int m, .int i, .ref 500] yX6_keep μX6_keep [.ref 300, .int m, .int i] M := by
  refine o_ro hL hC hR hn (d := 2) (by decide) (h_keep hL.1 hL.2.2.2.1 (by decide) (x_keep hL.1) (fun E M' h => ?_)) (pz := fun z => (1 ≤ m.toInt ∧ m.toInt ≤ 999) ∧ ∃ K : Nat, keepK m.toInt K ∧ ((0 ≤ i.toInt ∧ i.toInt < K ∧ z.toInt = keepW m.toInt i.toInt) ∨ (i.toInt = -1 ∧ z.toInt = K))) (pk := fun k => (k = 1 ∧ (1 ≤ m.toInt ∧ m.toInt ≤ 999) ∧ ∃ K : Nat, keepK m.toInt K ∧ ¬ (0 ≤ i.toInt ∧ i.toInt < K) ∧ ¬ i.toInt = -1) ∨ (k = 2 ∧ ¬ (1 ≤ m.toInt ∧ m.toInt ≤ 999))) (fun Γ1 v M1 h => ?_) (d2 := 1) (by decide) (fun M1 h1 => r_keep hL.2.1) (qz := fun z => (1 ≤ m.toInt ∧ m.toInt ≤ 999) ∧ ∃ K : Nat, keepK m.toInt K ∧ ((0 ≤ i.toInt ∧ i.toInt < K ∧ z.toInt = keepW m.toInt i.toInt) ∨ (i.toInt = -1 ∧ z.toInt = K))) (qk := fun k => (k = 1 ∧ (1 ≤ m.toInt ∧ m.toInt ≤ 999) ∧ ∃ K : Nat, keepK m.toInt K ∧ ¬ (0 ≤ i.toInt ∧ i.toInt < K) ∧ ¬ i.toInt = -1) ∨ (k = 2 ∧ ¬ (1 ≤ m.toInt ∧ m.toInt ≤ 999))) (fun M1 z M2 hr h => ?_) (fun z z2 h1 h2 => ?_) (fun z k h1 h2 => ?_) (fun k z h2 h1 => ?_) (fun k k' _ _ h1 h2 => ?_)
  · rcases h with h | h
    · exact Or.inr h.1
    · exact Or.inl h.1
  · obtain ⟨e, h⟩ := h
    refine ⟨e, ?_⟩
    rcases h with ⟨z, M0, q, e1, e2⟩ | ⟨e1, q⟩ | ⟨e1, q⟩
    · exact Or.inl ⟨z, M0, e1, e2, q.1 ▸ FC.rf, q.2⟩
    · rcases q with q | q
      · exact absurd q.1 nse_ne
      · exact Or.inr ⟨1, e1, by decide, q.2.1, Or.inl ⟨rfl, q.2.2⟩⟩
    · rcases q with q | q
      · exact Or.inr ⟨2, e1, by decide, q.2.1, Or.inr ⟨rfl, q.2.2⟩⟩
      · exact absurd q.1.symm nse_ne
  · rcases h with ⟨a1, -, a3⟩ | ⟨a1, K, a2, a3⟩
    · subst a3
      exact ⟨FR.c2, Or.inr ⟨by rw [code_at]; decide, Or.inr ⟨code_at, a1⟩⟩⟩
    · rcases a3 with ⟨c1, c2, c3, c4⟩ | ⟨c1, c2, c3⟩ | ⟨c1, c2, -, c4⟩
      · subst c4
        exact ⟨FR.c, Or.inl ⟨code_at, a1, K, a2, Or.inl ⟨c1, c2, c3⟩⟩⟩
      · subst c3
        exact ⟨FR.c, Or.inl ⟨code_at, a1, K, a2, Or.inr ⟨c1, c2⟩⟩⟩
      · subst c4
        exact ⟨FR.c2, Or.inr ⟨by rw [code_at]; decide, Or.inl ⟨code_at, a1, K, a2, c1, c2⟩⟩⟩
  · obtain ⟨-, K, k1, k2⟩ := h1
    obtain ⟨-, K', l1, l2⟩ := h2
    have e := keepK_uniq k1 l1
    subst e
    rcases k2 with ⟨a, a2, a3⟩ | ⟨a, a3⟩ <;> rcases l2 with ⟨c, c2, c3⟩ | ⟨c, c3⟩
    · exact i32_eq a3 c3
    · omega
    · omega
    · exact i32_eq a3 c3
  · obtain ⟨h0, K, k1, k2⟩ := h1
    rcases h2 with ⟨-, -, K', l1, l2, l3⟩ | ⟨-, l⟩
    · have e := keepK_uniq k1 l1
      subst e
      omega
    · exact l h0
  · obtain ⟨h0, K, k1, k2⟩ := h1
    rcases h2 with ⟨-, -, K', l1, l2, l3⟩ | ⟨-, l⟩
    · have e := keepK_uniq k1 l1
      subst e
      omega
    · exact l h0
  · rcases h1 with ⟨h1, g, -⟩ | ⟨h1, g⟩ <;> rcases h2 with ⟨h2, g2, -⟩ | ⟨h2, g2⟩
    · rw [h1, h2]
    · exact absurd g g2
    · exact absurd g2 g
    · rw [h1, h2]
theorem o_answers (hL : LW b Γ gt M) (hC : RC A M) (hR : RR A M) (hn : AOK A n) {p m sb : Int32} : OH b Γ gt n yL_answers μL_answers hhL_answers [.ref 0, .int p, .int m, .int sb, .ref 500] yX6_answers μX6_answers [.ref 300, .int p, .int m, .int sb] M := by
  refine o_ro hL hC hR hn (d := 3) (by decide) (h_answers hL.1 hL.2.2.2.1 (by decide) (x_answers hL.1 hC.1.1 (hC.tb hn)) (fun E M' h => ?_)) (pz := fun z => (0 ≤ p.toInt ∧ p.toInt < A.1.1 0 0) ∧ (1 ≤ m.toInt ∧ m.toInt ≤ 999) ∧ z.toInt = cntP (fun v => mkS A.1.1 (hasT A.1.1 p.toInt.toNat) (if sb.toInt = 0 then 0 else A.1.1 3 p.toInt.toNat) (A.1.1 0 1).toNat (v + 1)) m.toInt.toNat) (pk := fun k => (k = 1 ∧ ¬ (0 ≤ p.toInt ∧ p.toInt < A.1.1 0 0)) ∨ (k = 2 ∧ (0 ≤ p.toInt ∧ p.toInt < A.1.1 0 0) ∧ ¬ (1 ≤ m.toInt ∧ m.toInt ≤ 999))) (fun Γ1 v M1 h => ?_) (d2 := 2) (by decide) (fun M1 h1 => r_answers hL.2.1 hn.1.1 h1.1.1) (qz := fun z => (0 ≤ p.toInt ∧ p.toInt < A.1.1 0 0) ∧ (1 ≤ m.toInt ∧ m.toInt ≤ 999) ∧ z.toInt = cntP (fun v => mkS A.1.1 (hasT A.1.1 p.toInt.toNat) (if sb.toInt = 0 then 0 else A.1.1 3 p.toInt.toNat) (A.1.1 0 1).toNat (v + 1)) m.toInt.toNat) (qk := fun k => (k = 1 ∧ ¬ (0 ≤ p.toInt ∧ p.toInt < A.1.1 0 0)) ∨ (k = 2 ∧ (0 ≤ p.toInt ∧ p.toInt < A.1.1 0 0) ∧ ¬ (1 ≤ m.toInt ∧ m.toInt ≤ 999))) (fun M1 z M2 hr h => ?_) (fun z z2 h1 h2 => i32_eq h1.2.2 h2.2.2) (fun z k h1 h2 => ?_) (fun k z h2 h1 => ?_) (fun k k' _ _ h1 h2 => ?_)
  · rcases h with h | h
    · exact Or.inl h.1
    · exact Or.inr h.1
  · obtain ⟨e, h⟩ := h
    refine ⟨e, ?_⟩
    rcases h with ⟨z, M0, q, e1, e2⟩ | ⟨e1, q⟩ | ⟨e1, q⟩
    · exact Or.inl ⟨z, M0, e1, e2, FC.f q.1 (Or.inl rfl), q.2⟩
    · rcases q with q | q
      · exact Or.inr ⟨1, e1, by decide, q.2.1, Or.inl ⟨rfl, q.2.2⟩⟩
      · exact absurd q.1 nse_ne
    · rcases q with q | q
      · exact absurd q.1.symm nse_ne
      · exact Or.inr ⟨2, e1, by decide, q.2.1, Or.inr ⟨rfl, q.2.2⟩⟩
  · rcases h with ⟨a1, -, a3⟩ | ⟨a1, a2, -, a3⟩ | ⟨a1, a2, a3, a4, a5⟩
    · subst a3
      exact ⟨FR.c2, Or.inr ⟨by rw [code_at]; decide, Or.inl ⟨code_at, a1⟩⟩⟩
    · subst a3
      exact ⟨FR.c2, Or.inr ⟨by rw [code_at]; decide, Or.inr ⟨code_at, a1, a2⟩⟩⟩
    · refine ⟨(FR.c (x := 0)).tr ⟨fun j hj => a3 j (by unfold rN at hj; omega), fun i hi => by rw [a3 409 (by decide)], fun k hk => by rw [a3 300 (by decide)], a4⟩, Or.inl ⟨by rw [a3 300 (by decide)]; exact code_at, a1, a2, a5⟩⟩
  · rcases h2 with ⟨-, l⟩ | ⟨-, l, l2⟩
    · exact l h1.1
    · exact l2 h1.2.1
  · rcases h2 with ⟨-, l⟩ | ⟨-, l, l2⟩
    · exact l h1.1
    · exact l2 h1.2.1
  · rcases h1 with ⟨h1, g⟩ | ⟨h1, g⟩ <;> rcases h2 with ⟨h2, g2⟩ | ⟨h2, g2⟩
    · rw [h1, h2]
    · exact absurd g2.1 g
    · exact absurd g.1 g2
    · rw [h1, h2]
end OB
