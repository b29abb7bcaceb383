section OF
variable {b : Nat} {Γ : gW} {gt : Option Nat} {M : gM} {A : gAb} {n : Nat}
theorem feB_rng (a b c d e : Int32) (i : Nat) : 0 ≤ feB a b c d e i ∧ feB a b c d e i ≤ 255 := by
  unfold feB wB
  have := Nat.and_le_right (n := bn (feW a b c d e i) >>> (24 - 8 * (i % 4))) (m := 255)
  omega
theorem o_feed (hL : LW b Γ gt M) (hC : RC A M) (hR : RR A M) (hn : AOK A n) {a1 a2 a3 a4 a5 : Int32} : OD b Γ gt n yX5_feed μX5_feed [.ref 0, .int a1, .int a2, .int a3, .int a4, .int a5] yX6_feed μX6_feed [.ref 300, .int a1, .int a2, .int a3, .int a4, .int a5] M := by
  have hO := hn.o1
  obtain ⟨c1, c2, c3, c4, c5, c6, c7, c8, c9, c10⟩ := id hC
  have hfd := hn.2.2.2.2.2.1
  refine ⟨1, _, by decide, x_feed hL.1 (p := A.2.2.2.1.1) (by rw [c4.1]; omega) c4.1, fun z M1 h => ?_⟩
  have same : (∀ j, 300 ≤ j → M1.1 j = M.1 j) ∧ M1.2 = M.2 ∧ ∀ j, lG j → M1.1 j = M.1 j := by
    rcases h with ⟨-, -, e⟩ | ⟨-, -, f⟩
    · subst e; exact ⟨fun _ _ => rfl, rfl, fun _ _ => rfl⟩
    · exact ⟨fun j hj => f.1 j (by omega) (by omega), f.2.1, fun j hj => f.1 j (by unfold lG at hj; omega) (by unfold lG at hj; omega)⟩
  have hR1 : RR A M1 := hR.fc hO same.1
  obtain ⟨r1, r2, r3, r4, r5, r6, r7, r8, r9⟩ := id hR1
  have hL1 : LW b Γ gt M1 := LW.m hL (same.1 400 (by decide)) (fun _ j hj => ⟨same.2.2 j hj, by rw [same.2.1]⟩)
  refine ⟨0, _, by decide, r_feed hL.2.1 (by rw [r4.1]; omega), fun z2 M2 h2 => ?_⟩
  rw [r4.1] at h2
  rcases h with ⟨t1, t2, t3⟩ | ⟨t1, t2, t3⟩ <;> rcases h2 with ⟨v1, v2, v3⟩ | ⟨v1, v2, v3, v4, v5, v6, v7, v8, v9⟩
  · refine ⟨i32_eq t2 v2, A, ?_, ?_, hn.up (by omega), ?_⟩
    · rw [v3]; exact (by rw [t3]; exact hC : RC A M1).code
    · rw [v3]; exact hR1.code hO
    · rw [v3]; exact hL1.frr FR.c
  · omega
  · omega
  · refine ⟨i32_eq t2 v2, ?_⟩
    obtain ⟨f1, f2, f3, f4, f5, f6⟩ := t3
    rw [show ((A.2.2.2.1.1 : Nat) : Int).toNat = A.2.2.2.1.1 by omega] at v8 v9
    have e0 : ∀ j, j ≠ 230 → j ≠ 231 → j < 300 → M2.1 j = M.1 j := fun j p q r => by rw [v3 j (by omega) (by omega), f1 j p q]
    have e9 : ∀ j, j ≠ 300 → j ≠ 413 → 300 ≤ j → M2.1 j = M.1 j := fun j p q r => by rw [v3 j p q, f1 j (by omega) (by omega)]
    refine ⟨(A.1, A.2.1, A.2.2.1, (A.2.2.2.1.1 + 20, fun q => if A.2.2.2.1.1 ≤ q ∧ q < A.2.2.2.1.1 + 20 then feB a1 a2 a3 a4 a5 (q - A.2.2.2.1.1) else A.2.2.2.1.2 q), A.2.2.2.2), ?_, ?_, ?_, ?_⟩
    · refine ⟨c1.fr (fun j hj => e0 j (by omega) (by omega) (by omega)), by rw [e0 0 (by decide) (by decide) (by decide)]; exact c2, by rw [e0 0 (by decide) (by decide) (by decide)]; exact c3, ⟨?_, fun q hq => ?_⟩, by rw [e0 0 (by decide) (by decide) (by decide), e0 1 (by decide) (by decide) (by decide)]; exact c5, by rw [e0 241 (by decide) (by decide) (by decide)]; exact c6, RCi.fr (by rw [e0 0 (by decide) (by decide) (by decide)]) (by rw [e0 0 (by decide) (by decide) (by decide)]) (by rw [e0 0 (by decide) (by decide) (by decide)]) (fun j hj => e0 j (by omega) (by omega) (by omega)) c7, ?_, by rw [e0 169 (by decide) (by decide) (by decide)]; exact c9, by rw [e0 170 (by decide) (by decide) (by decide)]; exact c10⟩
      · rw [v3 230 (by decide) (by decide), f4]; show _ = ((A.2.2.2.1.1 + 20 : Nat) : Int); push_cast; rfl
      · rw [v3 231 (by decide) (by decide)]
        show _ = sgn8 (if A.2.2.2.1.1 ≤ q ∧ q < A.2.2.2.1.1 + 20 then feB a1 a2 a3 a4 a5 (q - A.2.2.2.1.1) else A.2.2.2.1.2 q)
        by_cases hq2 : A.2.2.2.1.1 ≤ q ∧ q < A.2.2.2.1.1 + 20
        · rw [if_pos hq2, ← f5 (q - A.2.2.2.1.1) (by omega), show A.2.2.2.1.1 + (q - A.2.2.2.1.1) = q by omega]
        · rw [if_neg hq2, f6 q hq2]; exact c4.2 q hq
      · rw [tv_far (M' := M2) (M := M) (t := 160) (fun j x y => e0 j (by omega) (by omega) (by omega))]; exact c8
    · have k0 : ∀ q, q ≠ 1 → q ≠ 14 → M2.1 300 q = M1.1 300 q := fun q a c => v5 q a c
      have n0 : ∀ j, j ≠ 300 → j ≠ 413 → M2.1 j = M1.1 j := fun j a c => v3 j a c
      refine ⟨⟨RS.fr r1.1 hO (fun j hj => n0 j (by omega) (by omega)) (fun i hi => by rw [n0 409 (by decide) (by decide)]) (k0 12 (by decide) (by decide)), by rw [k0 24 (by decide) (by decide)]; exact r1.2.1, by rw [n0 425 (by decide) (by decide)]; exact r1.2.2⟩, by rw [n0 406 (by decide) (by decide)]; exact r2, by rw [k0 23 (by decide) (by decide)]; exact r3, ⟨?_, fun q hq => ?_⟩, by rw [k0 32 (by decide) (by decide), n0 431 (by decide) (by decide)]; exact r5, by rw [n0 430 (by decide) (by decide)]; exact r6, RRi.fr2 (fun j hj => n0 j (by omega) (by omega)) (fun k q => k0 k (by omega) (by omega)) r7, by rw [k0 49 (by decide) (by decide)]; exact r8, by rw [n0 400 (by decide) (by decide)]; exact r9⟩
      · rw [v7]; show _ = ((A.2.2.2.1.1 + 20 : Nat) : Int); push_cast; rfl
      · show _ = (if A.2.2.2.1.1 ≤ q ∧ q < A.2.2.2.1.1 + 20 then feB a1 a2 a3 a4 a5 (q - A.2.2.2.1.1) else A.2.2.2.1.2 q)
        by_cases hq2 : A.2.2.2.1.1 ≤ q ∧ q < A.2.2.2.1.1 + 20
        · rw [if_pos hq2, ← v8 (q - A.2.2.2.1.1) (by omega), show A.2.2.2.1.1 + (q - A.2.2.2.1.1) = q by omega]
        · rw [if_neg hq2, v9 q hq2]; exact r4.2 q hq
    · obtain ⟨o1, o2, o3, o4, o5, o6, o7, o8⟩ := hn
      refine ⟨o1, o2, ?_, ?_, ?_, ⟨?_, fun q hq => ?_⟩, o7, o8.up (by omega)⟩
      · show A.1.1 0 4 ≤ _; push_cast; omega
      · show 0 ≤ A.2.1.1 ∧ A.2.1.1 ≤ _; push_cast; omega
      · show 0 ≤ A.2.1.2 ∧ A.2.1.2 ≤ _; push_cast; omega
      · show A.2.2.2.1.1 + 20 ≤ 700; omega
      · show 0 ≤ (if A.2.2.2.1.1 ≤ q ∧ q < A.2.2.2.1.1 + 20 then feB a1 a2 a3 a4 a5 (q - A.2.2.2.1.1) else A.2.2.2.1.2 q) ∧ (if A.2.2.2.1.1 ≤ q ∧ q < A.2.2.2.1.1 + 20 then feB a1 a2 a3 a4 a5 (q - A.2.2.2.1.1) else A.2.2.2.1.2 q) ≤ 255
        by_cases hq2 : A.2.2.2.1.1 ≤ q ∧ q < A.2.2.2.1.1 + 20
        · rw [if_pos hq2]; exact feB_rng _ _ _ _ _ _
        · rw [if_neg hq2]; exact o6.2 q hq
    · refine LW.m hL1 (v3 400 (by decide) (by decide)) (fun _ j hj => ⟨v3 j (by unfold lG at hj; omega) (by unfold lG at hj; omega), by rw [v4]⟩)
end OF
