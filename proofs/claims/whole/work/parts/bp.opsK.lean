def LSh (b : Nat) (Γ : gW) (gt : Option Nat) : Prop := g_HG Γ gt ∧ g_Ref Γ ∧ g_o Γ 400 (.inr (5, 5)) ∧ g_o Γ 500 (.inr (2, 1)) ∧ Γ.2.2.1 598 = b
theorem LW.sh {b : Nat} {Γ : gW} {gt : Option Nat} {M : gM} (h : LW b Γ gt M) : LSh b Γ gt := ⟨h.1, h.2.1, h.2.2.1, h.2.2.2.1, h.2.2.2.2.1⟩
/-- a call by a helper, in general: objects may be made -/
def OL (b : Nat) (Γ : gW) (n : Nat) (yC : MethodName) (μC : gY) (hh : gHH) (av : List Value) (yR : MethodName) (μR : gY) (av2 : List Value) (M : gM) : Prop :=
  ∃ (d mc ms : Nat) (P : gW → Option Value → gM → Prop), d ≤ 20 ∧ mc ≤ 15 ∧ ms ≤ 8264 ∧ CtL Γ yC μC hh d mc ms av M P ∧ ∀ (Γ1 : gW) (v : Option Value) (M1 : gM), P Γ1 v M1 → gE Γ Γ1 ∧ ∃ gt1 : Option Nat, LSh b Γ1 gt1 ∧ ∃ k : Int32, v = some (.int k) ∧ ∃ (d2 : Nat) (P2 : Int32 → gM → Prop), d2 ≤ 20 ∧ Ct Γ1 yR μR d2 av2 M1 (g_qi P2) ∧ ∀ (z : Int32) (M2 : gM), P2 z M2 → M2.1 300 1 = k ∧ (k = 0 → M2.2 500 0 = z.toInt64) ∧ ∃ A' : gAb, RC A' M2 ∧ RR A' M2 ∧ AOK A' (n + 1) ∧ LW b Γ1 gt1 M2
theorem OH.l {b : Nat} {Γ : gW} {gt : Option Nat} {n : Nat} {yC : MethodName} {μC : gY} {hh : gHH} {av : List Value} {yR : MethodName} {μR : gY} {av2 : List Value} {M : gM} (hS : LSh b Γ gt) (h : OH b Γ gt n yC μC hh av yR μR av2 M) : OL b Γ n yC μC hh av yR μR av2 M := by
  obtain ⟨d, P, h1, h2, h3⟩ := h
  refine ⟨d, 1, 6, P, h1, by decide, by decide, h2, fun Γ1 v M1 hp => ?_⟩
  obtain ⟨rfl, h4⟩ := h3 Γ1 v M1 hp
  exact ⟨gE.rf, gt, hS, h4⟩
section OK
variable {b : Nat} {Γ : gW} {gt : Option Nat} {M : gM} {A : gAb} {n : Nat}
theorem frZ.c {M1 : gM} (h : frZ M M1) : (∀ j, cN j ∨ 300 ≤ j → M1.1 j = M.1 j) ∧ ∀ j, j ≠ 251 → j ≠ 253 → M1.2 j = M.2 j := ⟨fun j hj => h.1 j (by unfold cN at hj; omega) (by unfold cN at hj; omega) (by unfold cN at hj; omega), h.2.1⟩
/-- the reference's get, after the class's -/
theorem get_tail {Γ1 : gW} {gt1 : Option Nat} {M0 M1 : gM} (hL1 : LW b Γ1 gt1 M1) (hC : RC A M) (hR : RR A M) (hn : AOK A n) {p q z : Int32} (hf : frZ M M0) (e2 : M1 = g_ul M0 500 0 z.toInt64) (rg : (0 ≤ p.toInt ∧ p.toInt < A.1.1 0 0) ∧ 0 ≤ q.toInt ∧ q.toInt < A.1.1 0 1) (hz : z.toInt = getZ A.1.1 p.toInt.toNat q.toInt.toNat) : ∃ (d2 : Nat) (P2 : Int32 → gM → Prop), d2 ≤ 20 ∧ Ct Γ1 yX6_get μX6_get d2 [.ref 300, .int p, .int q] M1 (g_qi P2) ∧ ∀ (z : Int32) (M2 : gM), P2 z M2 → M2.1 300 1 = (0 : Int32) ∧ ((0 : Int32) = 0 → M2.2 500 0 = z.toInt64) ∧ ∃ A' : gAb, RC A' M2 ∧ RR A' M2 ∧ AOK A' (n + 1) ∧ LW b Γ1 gt1 M2 := by
  have hO := hn.o1
  have hC1 : RC A M1 := by rw [e2]; exact (hC.fr (fun j hj => hf.c.1 j (Or.inl hj))).ul
  have hR1 : RR A M1 := by rw [e2]; exact (hR.fc hO (fun j hj => hf.c.1 j (Or.inr hj))).ul hO
  refine ⟨5, _, by decide, r_get hL1.2.1 hn.1 hR1.1.1, fun z2 M2 h2 => ?_⟩
  rcases h2 with ⟨v1, -⟩ | ⟨-, v2, v3⟩
  · exact absurd rg v1
  have f : FR M1 M2 := FR.c.tr ⟨fun j hj => v2.1 j (by unfold rN at hj; omega) (by unfold rN at hj; omega) (by unfold rN at hj; omega) (by unfold rN at hj; omega) (by unfold rN at hj; omega) (by unfold rN at hj; omega) (by unfold rN at hj; omega), fun i hi => by rw [v2.1 409 (by decide) (by decide) (by decide) (by decide) (by decide) (by decide) (by decide)], fun k hk => v2.2.2 k (by unfold rK at hk; omega) (by unfold rK at hk; omega), v2.2.1⟩
  refine ⟨by rw [v2.2.2 1 (by decide) (by decide)]; exact code_at, fun _ => ?_, A, hC1.frr f, hR1.frr hO f, hn.up (by omega), hL1.frr f⟩
  rw [f.2.2.2, e2, g_ul_at, i32_eq v3 hz]
  exact if_pos rfl
theorem get_bad (hL : LW b Γ gt M) (hC : RC A M) (hR : RR A M) (hn : AOK A n) {p q : Int32} (rg : ¬ ((0 ≤ p.toInt ∧ p.toInt < A.1.1 0 0) ∧ 0 ≤ q.toInt ∧ q.toInt < A.1.1 0 1)) : ∃ (d2 : Nat) (P2 : Int32 → gM → Prop), d2 ≤ 20 ∧ Ct Γ yX6_get μX6_get d2 [.ref 300, .int p, .int q] M (g_qi P2) ∧ ∀ (z : Int32) (M2 : gM), P2 z M2 → M2.1 300 1 = (1 : Int32) ∧ ((1 : Int32) = 0 → M2.2 500 0 = z.toInt64) ∧ ∃ A' : gAb, RC A' M2 ∧ RR A' M2 ∧ AOK A' (n + 1) ∧ LW b Γ gt M2 := by
  have hO := hn.o1
  refine ⟨5, _, by decide, r_get hL.2.1 hn.1 hR.1.1, fun z2 M2 h2 => ?_⟩
  rcases h2 with ⟨-, -, v3⟩ | ⟨v1, -⟩
  · subst v3
    exact ⟨code_at, fun h => absurd h (by decide), A, hC.frr FR.c2, hR.frr hO FR.c2, hn.up (by omega), hL.frr FR.c2⟩
  · exact absurd v1 rg
theorem o_get (hL : LW b Γ gt M) (hC : RC A M) (hR : RR A M) (hn : AOK A n) {p q : Int32} : OL b Γ n yL_get μL_get hhL_get [.ref 0, .int p, .int q, .ref 500] yX6_get μX6_get [.ref 300, .int p, .int q] M := by
  rcases hL.1.2.2.2.2.2.2.2.2.2.2.2 with e | ⟨e, -⟩
  · subst e
    obtain ⟨hN, hz⟩ := hL.2.2.2.2.2.2 rfl
    refine ⟨9, 15, 8264, _, by decide, by decide, by decide, h_get0 hL.1 hL.2.2.2.1 (x_get0 hL.1 hC.1.1 (hC.tb hn) hn.1 hL.2.2.2.2.2.1 hN hz) (fun Γ' v M' h => ⟨h.1, h.2.2.imp (fun z hz => hz.1)⟩) (fun E M' h => h.1), fun Γ1 v M1 h => ?_⟩
    rcases h with ⟨z, M0, ⟨hD, hCl, z', ez, rg, hf, hz2⟩, e1, e2⟩ | ⟨eΓ, e1, -, q1, q2⟩
    · have ez' : z = z' := by cases ez; rfl
      subst ez'
      have hE : gE Γ Γ1 := hD.e (by decide +kernel)
      have hS : LSh b Γ1 (some 250) := ⟨hg_get hD hL.1, rf_get hD hL.2.1, hD.old hL.2.2.1 (by decide +kernel), hD.old hL.2.2.2.1 (by decide +kernel), by rw [hE.2.2 598 (Or.inr (by decide))]; exact hL.2.2.2.2.1⟩
      have hL1 : LW b Γ1 (some 250) M1 := ⟨hS.1, hS.2.1, hS.2.2.1, hS.2.2.2.1, hS.2.2.2.2, hCl.m (by rw [e2]; rfl), fun h => by cases h⟩
      exact ⟨hE, some 250, hS, 0, e1, get_tail hL1 hC hR hn hf e2 rg hz2⟩
    · subst eΓ
      subst q1
      exact ⟨gE.rf, none, hL.sh, 1, e1, get_bad hL hC hR hn q2⟩
  · subst e
    refine ⟨9, 1, 6, _, by decide, by decide, by decide, h_get hL.1 hL.2.2.2.1 (by decide) (x_get1 hL.1 hC.1.1 (hC.tb hn) hn.1) (fun E M' h => h.1), fun Γ1 v M1 h => ?_⟩
    obtain ⟨eΓ, h⟩ := h
    subst eΓ
    rcases h with ⟨z, M0, ⟨rg, hf, hz2⟩, e1, e2⟩ | ⟨e1, -, q1, q2⟩
    · have hL1 : LW b Γ1 (some 250) M1 := ⟨hL.1, hL.2.1, hL.2.2.1, hL.2.2.2.1, hL.2.2.2.2.1, hL.2.2.2.2.2.1.m (by rw [e2]; exact hf.c.1 400 (Or.inr (by decide))), fun h => by cases h⟩
      exact ⟨gE.rf, some 250, hL.sh, 0, e1, get_tail hL1 hC hR hn hf e2 rg hz2⟩
    · subst q1
      exact ⟨gE.rf, some 250, hL.sh, 1, e1, get_bad hL hC hR hn q2⟩
end OK
