section OA
variable {b : Nat} {Γ : gW} {gt : Option Nat} {M : gM} {A : gAb} {n : Nat}
theorem o_person (hL : LW b Γ gt M) (hC : RC A M) (hR : RR A M) (hn : AOK A n) {p w : Int32} : OH b Γ gt n yL_person μL_person hhL_person [.ref 0, .int p, .int w, .ref 500] yX6_person μX6_person [.ref 300, .int p, .int w] M :=
  o_rg hL hC hR hn (d := 2) (by decide) (h_person hL.1 hL.2.2.2.1 (by decide) (x_person hL.1 hC.1.1 (hC.tb hn)) (fun E M' h => h.1)) Iff.rfl (fun z M1 h => ⟨h.1 ▸ FC.rf, h.2.1, h.2.2⟩) (fun M1 h => ⟨h.2.1, h.2.2⟩) (d2 := 2) (by decide) (fun M1 h1 => r_person hL.2.1 hn.1.1 h1.1.1) (qz := fun z => z.toInt = perT A.1.1 p.toInt.toNat w.toInt) (fun M1 z M2 hr h => by
    rcases h with ⟨a1, -, a3⟩ | ⟨a1, a2, a3⟩
    · exact Or.inl ⟨a1, a3⟩
    · exact Or.inr ⟨a1, a2 ▸ FR.c, by rw [a2]; exact code_at, a3⟩) (fun z z2 _ h1 h2 => i32_eq h1 h2)
theorem o_thing (hL : LW b Γ gt M) (hC : RC A M) (hR : RR A M) (hn : AOK A n) {p w : Int32} : OH b Γ gt n yL_thing μL_thing hhL_thing [.ref 0, .int p, .int w, .ref 500] yX6_thing μX6_thing [.ref 300, .int p, .int w] M :=
  o_rg hL hC hR hn (d := 3) (by decide) (h_thing hL.1 hL.2.2.2.1 (by decide) (x_thing hL.1 hC.1.1 (hC.tb hn)) (fun E M' h => h.1)) Iff.rfl (fun z M1 h => ⟨h.1 ▸ FC.rf, h.2.1, h.2.2⟩) (fun M1 h => ⟨h.2.1, h.2.2⟩) (d2 := 2) (by decide) (fun M1 h1 => r_thing hL.2.1 hn.1.1 h1.1.1) (qz := fun z => z.toInt = thgT A.1.1 p.toInt.toNat w.toInt) (fun M1 z M2 hr h => by
    rcases h with ⟨a1, -, a3⟩ | ⟨a1, a2, a3⟩
    · exact Or.inl ⟨a1, a3⟩
    · exact Or.inr ⟨a1, a2 ▸ FR.c, by rw [a2]; exact code_at, a3⟩) (fun z z2 _ h1 h2 => i32_eq h1 h2)
theorem o_sets (hL : LW b Γ gt M) (hC : RC A M) (hR : RR A M) (hn : AOK A n) {p : Int32} : OH b Γ gt n yL_sets μL_sets hhL_sets [.ref 0, .int p, .ref 500] yX6_sets μX6_sets [.ref 300, .int p] M :=
  o_rg hL hC hR hn (d := 4) (by decide) (h_sets hL.1 hL.2.2.2.1 (by decide) (x_sets hL.1 hC.1.1 (hC.tb hn)) (fun E M' h => h.1)) Iff.rfl (fun z M1 h => ⟨h.1 ▸ FC.rf, h.2.1, h.2.2⟩) (fun M1 h => ⟨h.2.1, h.2.2⟩) (d2 := 3) (by decide) (fun M1 h1 => r_sets hL.2.1 hn.1.1 h1.1.1) (qz := fun z => z.toInt = cntP (fitT A.1.1 p.toInt.toNat) 4096) (fun M1 z M2 hr h => by
    rcases h with ⟨a1, -, a3⟩ | ⟨a1, a2, a3⟩
    · exact Or.inl ⟨a1, a3⟩
    · exact Or.inr ⟨a1, a2 ▸ FR.c, by rw [a2]; exact code_at, a3⟩) (fun z z2 _ h1 h2 => i32_eq h1 h2)
def cntA (A : gAb) (w : Int) : Int := if w = 0 then A.1.1 0 0 else if w = 1 then A.1.1 0 1 else if w = 2 then A.1.1 0 2 else if w = 3 then A.1.1 0 3 else if w = 4 then A.1.1 0 4 else if w = 5 then (A.1.2.1 : Int) else if w = 6 then (A.2.2.2.1.1 : Int) else if w = 7 then A.2.1.1 else A.2.1.2
theorem cntC_A (hC : RC A M) {w : Int} (hw : 0 ≤ w ∧ w ≤ 8) : cntC A.1.1 M w = cntA A w := by
  unfold cntC cntA
  rw [hC.1.2.2.1, hC.2.2.2.1.1]
  by_cases h7 : w = 7
  · subst h7; exact hC.2.1.1
  · by_cases h8 : w = 8
    · subst h8; exact hC.2.1.2
    · have : w = 0 ∨ w = 1 ∨ w = 2 ∨ w = 3 ∨ w = 4 ∨ w = 5 ∨ w = 6 := by omega
      rcases this with h | h | h | h | h | h | h <;> subst h <;> rfl
theorem cntR_A (hR : RR A M) {w : Int} (hw : 0 ≤ w ∧ w ≤ 8) : cntR A.1.1 M w = cntA A w := by
  unfold cntR cntA
  rw [hR.1.2.1, hR.2.2.2.1.1]
  by_cases h7 : w = 7
  · subst h7; exact hR.2.1.1
  · by_cases h8 : w = 8
    · subst h8; exact hR.2.1.2
    · have : w = 0 ∨ w = 1 ∨ w = 2 ∨ w = 3 ∨ w = 4 ∨ w = 5 ∨ w = 6 := by omega
      rcases this with h | h | h | h | h | h | h <;> subst h <;> rfl
theorem o_count (hL : LW b Γ gt M) (hC : RC A M) (hR : RR A M) (hn : AOK A n) {w : Int32} : OH b Γ gt n yL_count μL_count hhL_count [.ref 0, .int w, .ref 500] yX6_count μX6_count [.ref 300, .int w] M :=
  o_rg hL hC hR hn (d := 2) (by decide) (h_count hL.1 hL.2.2.2.1 (by decide) (x_count hL.1 hC.1.1 (hC.tb hn)) (fun E M' h => h.1)) Iff.rfl (pz := fun z => z.toInt = cntA A w.toInt) (fun z M1 h => ⟨h.1 ▸ FC.rf, h.2.1, by rw [h.2.2, cntC_A hC h.2.1]⟩) (fun M1 h => ⟨h.2.1, h.2.2⟩) (d2 := 1) (by decide) (fun M1 h1 => r_count hL.2.1 hn.1.1 h1.1.1) (qz := fun z => z.toInt = cntA A w.toInt) (fun M1 z M2 hr h => by
    rcases h with ⟨a1, -, a3⟩ | ⟨a1, a2, a3⟩
    · exact Or.inl ⟨a1, a3⟩
    · exact Or.inr ⟨a1, a2 ▸ FR.c, by rw [a2]; exact code_at, by rw [a3, cntR_A hr a1]⟩) (fun z z2 _ h1 h2 => i32_eq h1 h2)
theorem o_gift (hL : LW b Γ gt M) (hC : RC A M) (hR : RR A M) (hn : AOK A n) {i w : Int32} : OH b Γ gt n yL_gift μL_gift hhL_gift [.ref 0, .int i, .int w, .ref 500] yX6_gift μX6_gift [.ref 300, .int i, .int w] M := by
  have hg := hC.1.2.2.2.1
  have hg2 := hC.1.2.2.1
  refine o_rg hL hC hR hn (d := 2) (by decide) (h_gift hL.1 hL.2.2.2.1 (by decide) (x_gift hL.1 ⟨by omega, by omega⟩) (fun E M' h => h.1)) (rg := 0 ≤ i.toInt ∧ i.toInt < (A.1.2.1 : Int) ∧ 0 ≤ w.toInt ∧ w.toInt ≤ 4) Iff.rfl (pz := fun z => z.toInt = A.1.2.2 i.toInt.toNat w.toInt.toNat) (fun z M1 h => ?_) (fun M1 h => ?_) (d2 := 1) (by decide) (fun M1 h1 => r_gift hL.2.1 ⟨by rw [h1.1.2.1]; omega, by rw [h1.1.2.1]; omega⟩) (qz := fun z => z.toInt = A.1.2.2 i.toInt.toNat w.toInt.toNat) (fun M1 z M2 hr h => ?_) (fun z z2 _ h1 h2 => i32_eq h1 h2)
  · obtain ⟨h1, h2, h3⟩ := h
    rw [hg2] at h2
    exact ⟨h1 ▸ FC.rf, h2, by rw [h3]; exact hC.1.2.2.2.2 _ (by omega) _ (by omega)⟩
  · obtain ⟨-, h1, h2⟩ := h
    rw [hg2] at h2
    exact ⟨h1, h2⟩
  · have e := hr.1.2.1
    rcases h with ⟨a1, -, a3⟩ | ⟨a1, a2, a3⟩
    · rw [e] at a1; exact Or.inl ⟨a1, a3⟩
    · rw [e] at a1
      exact Or.inr ⟨a1, a2 ▸ FR.c, by rw [a2]; exact code_at, by rw [a3]; exact hr.1.2.2 _ (by omega) _ (by omega)⟩
theorem o_order (hL : LW b Γ gt M) (hC : RC A M) (hR : RR A M) (hn : AOK A n) {i : Int32} : OH b Γ gt n yL_order μL_order hhL_order [.ref 0, .int i, .ref 500] yX6_order μX6_order [.ref 300, .int i] M := by
  have hg := hn.2.2.2.2.2.2.1
  have hg2 := hC.2.2.2.2.1.1
  refine o_rg hL hC hR hn (d := 1) (by decide) (h_order hL.1 hL.2.2.2.1 (by decide) (x_order hL.1 (by omega)) (fun E M' h => h.1)) (rg := 0 ≤ i.toInt ∧ i.toInt < (A.2.2.2.2.1.1 : Int)) Iff.rfl (pz := fun z => z.toInt = A.2.2.2.2.1.2 i.toInt.toNat) (fun z M1 h => ?_) (fun M1 h => ?_) (d2 := 1) (by decide) (fun M1 h1 => r_order hL.2.1 (by have := h1.2.2.2.2.1.1; omega)) (qz := fun z => z.toInt = A.2.2.2.2.1.2 i.toInt.toNat) (fun M1 z M2 hr h => ?_) (fun z z2 _ h1 h2 => i32_eq h1 h2)
  · obtain ⟨h1, h2, h3⟩ := h
    rw [hg2] at h2
    exact ⟨h1 ▸ FC.rf, h2, by rw [h3]; exact hC.2.2.2.2.1.2 _ (by omega)⟩
  · obtain ⟨-, h1, h2⟩ := h
    rw [hg2] at h2
    exact ⟨h1, h2⟩
  · have e := hr.2.2.2.2.1.1
    rcases h with ⟨a1, -, a3⟩ | ⟨a1, a2, a3⟩
    · exact Or.inl ⟨by omega, a3⟩
    · exact Or.inr ⟨by omega, a2 ▸ FR.c, by rw [a2]; exact code_at, by rw [a3]; exact hr.2.2.2.2.1.2 _ (by omega)⟩
theorem FC.f {a : Nat} {M1 : gM} (h : fr a M M1) (ha : a = 2 ∨ a = 3) : FC M M1 := ⟨fun j hj => h.1 j (by unfold cN at hj; omega), fun j hj => ⟨h.1 j (by unfold lG at hj; omega), by rw [h.2]⟩⟩
theorem o_fewest (hL : LW b Γ gt M) (hC : RC A M) (hR : RR A M) (hn : AOK A n) {w : Int32} : OH b Γ gt n yL_fewest μL_fewest hhL_fewest [.ref 0, .int w, .ref 500] yX6_fewest μX6_fewest [.ref 300, .int w] M :=
  o_rg hL hC hR hn (d := 2) (by decide) (h_fewest hL.1 hL.2.2.2.1 (by decide) (x_fewest hL.1 hC.1.1 (hC.tb hn)) (fun E M' h => h.1)) Iff.rfl (fun z M1 h => ⟨FC.f h.1 (Or.inr rfl), h.2.1, h.2.2⟩) (fun M1 h => ⟨h.2.1, h.2.2⟩) (d2 := 1) (by decide) (fun M1 h1 => r_fewest hL.2.1 hn.1.1 h1.1.1) (qz := fun z => CH (allS A.1.1 w.toInt) popc z.toInt) (fun M1 z M2 hr h => by
    rcases h with ⟨a1, -, a3⟩ | ⟨a1, a2, a3⟩
    · exact Or.inl ⟨a1, a3⟩
    · refine Or.inr ⟨a1, FR.c.tr ⟨fun j hj => a2.1 j (by unfold rN at hj; omega), fun i hi => by rw [a2.1 409 (by decide)], fun k hk => by rw [a2.1 300 (by decide)], a2.2⟩, by rw [a2.1 300 (by decide)]; exact code_at, a3⟩) (fun z z2 _ h1 h2 => i32_eq (CH_uniq h1 h2) rfl)
end OA
