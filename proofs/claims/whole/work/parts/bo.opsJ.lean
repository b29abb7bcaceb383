theorem CR.few {T : gTw} {M M' : gM} (h : CR T M) (h0 : T 0 0 ≤ 6) (h1 : T 0 1 ≤ 12) (e2 : ∀ k, k < 4 → M'.1 402 k = M.1 402 k) (e3 : ∀ k, k < 6 → M'.1 403 k = M.1 403 k ∧ M'.1 404 k = M.1 404 k) (e5 : ∀ k, k < 12 → M'.1 405 k = M.1 405 k) : CR T M' := by
  obtain ⟨a1, a2, a3, a4, a5, a6⟩ := h
  exact ⟨by rw [e2 0 (by decide)]; exact a1, by rw [e2 1 (by decide)]; exact a2, by rw [e2 2 (by decide)]; exact a3, by rw [e2 3 (by decide)]; exact a4, fun p hp => by rw [(e3 p (by omega)).1, (e3 p (by omega)).2]; exact a5 p hp, fun i hi => by rw [e5 i (by omega)]; exact a6 i hi⟩
section OJ
variable {b : Nat} {Γ : gW} {gt : Option Nat} {M : gM} {A : gAb} {n : Nat}
theorem o_town (hL : LW b Γ gt M) (hC : RC A M) (hR : RR A M) (hn : AOK A n) (h5 : n ≤ 600) {m : Int32} : OH b Γ gt n yL_town μL_town hhL_town [.ref 0, .int m, .ref 500] yX6_town μX6_town [.ref 300, .int m] M := by
  have hO := hn.o1
  have h00 := hn.1.1.1
  have hr0 := hn.2.2.2.1
  have hst := hn.2.2.2.2.1
  have hd4 := hn.2.2.1
  have hfd := hn.2.2.2.2.2.1
  obtain ⟨c1, c2, c3, c4, c5, c6, c7, c8, c9, c10⟩ := id hC
  refine ⟨10, _, by decide, h_town hL.1 hL.2.2.2.1 (by decide) (x_town hL.1 (t := A.2.2.2.1.2) (by rw [c4.1]; omega) hfd.2 c4.2 c8 ⟨c9, c10⟩ (by rw [c2.1]; omega)) (fun E M' h => h.1), fun Γ1 v M1 h => ?_⟩
  rw [c4.1] at h
  obtain ⟨eΓ, h⟩ := h
  refine ⟨eΓ, ?_⟩
  have rt : ∀ M1 : gM, RR A M1 → Ct Γ yX6_town μX6_town 8 [.ref 300, .int m] M1 _ := fun M1 h1 => r_town (t := A.2.2.2.1.2) (T0 := clrT (tv M 160)) hL.2.1 hL.2.2.1 (by rw [h1.2.1.1]; omega) h1.2.2.2.2.2.2.2.2 (by rw [h1.2.2.2.1.1]; omega) hfd.2 h1.2.2.2.1.2 (PIV.clr c8) (fun k hk => if_pos (Or.inl rfl))
  rcases h with ⟨z, M0, ⟨rg, hz⟩, e1, e2⟩ | ⟨e1, q⟩
  · have e9 : M1.1 = M0.1 := by rw [e2]; rfl
    have e8 : ∀ j, j ≠ 500 → M1.2 j = M0.2 j := fun j hj => by rw [e2, g_ul_ne hj]
    have same : (∀ j, 300 ≤ j → M0.1 j = M.1 j) ∧ M0.2 = M.2 ∧ ∀ j, lG j → M0.1 j = M.1 j := by
      rcases hz with ⟨q, -, -, w1, w2, -⟩ | ⟨T1, -, -, -, w1, w2, -⟩
      · exact ⟨fun j hj => w2 j (by omega) (by omega) (by omega), w1.1, fun j hj => w2 j (by unfold lG at hj; omega) (by unfold lG at hj; omega) (by unfold lG at hj; omega)⟩
      · exact ⟨fun j hj => w2 j (by omega) (by omega) (by omega) (by omega) (by omega), w1.1, fun j hj => w2 j (by unfold lG at hj; omega) (by unfold lG at hj; omega) (by unfold lG at hj; omega) (by unfold lG at hj; omega) (by unfold lG at hj; omega)⟩
    have hR0 : RR A M1 := by rw [e2]; exact (hR.fc hO same.1).ul hO
    obtain ⟨r1, r2, r3, r4, r5, r6, r7, r8, r9⟩ := id hR0
    have hL0 : LW b Γ gt M1 := LW.m hL (by rw [e9]; exact same.1 400 (by decide)) (fun _ j hj => ⟨by rw [e9]; exact same.2.2 j hj, by rw [e8 j (by unfold lG at hj; omega), same.2.1]⟩)
    refine ⟨0, e1, 8, _, by decide, rt M1 hR0, fun z2 M2 h2 => ?_⟩
    rw [r4.1] at h2
    rcases h2 with ⟨v1, -⟩ | ⟨-, h2⟩
    · exact absurd rg v1
    have out : z = z2 → M2.2 = M1.2 → M2.2 500 0 = z2.toInt64 := fun ez em => by
      rw [em, e2, g_ul_at, ez]; exact if_pos rfl
    rcases hz with ⟨q, u1, u2, w1, w2, w3, w4, w5⟩ | ⟨T1, u1, u2, u3, w1, w2, w3, w4, w5, w6, w7, w8, w9⟩ <;> rcases h2 with ⟨q', x1, x2, x3⟩ | ⟨T2, x1, x2, x3, x4⟩
    · have eq : q = q' := by rw [u1] at x1; exact Sum.inl.inj x1
      subst eq
      obtain ⟨⟨y1, y2, y3, y4, y5, y6⟩, x4, x5, x6, x7, x8, x9, x10, x11, x12, x13, x14⟩ := x3
      have n0 : ∀ j, j ≠ 300 → (j < 402 ∨ 411 < j) → M2.1 j = M1.1 j := fun j a c => y1 j a (by omega) (by omega) (by omega) (by omega) (by omega) (by omega) (by omega) (by omega) (by omega) (by omega)
      have lo : ∀ j, j < 300 → M2.1 j = M0.1 j := fun j hj => by rw [n0 j (by omega) (by omega), e9]
      refine ⟨Int32.toInt_inj.mp y5, fun _ => out (i32_eq u2 x2) y2, (A.1, (A.2.1.1 + 1, A.2.1.2), q.2, (0, A.2.2.2.1.2), A.2.2.2.2), ?_, ?_, ?_, ?_⟩
      · have m0 : ∀ j, j ≠ 0 → j ≠ 230 → (j < 160 ∨ 170 < j) → j < 300 → M2.1 j = M.1 j := fun j a c d e => by rw [lo j e, w2 j a c d]
        have q0 : ∀ k, k ≠ 3 → k ≠ 11 → M2.1 0 k = M.1 0 k := fun k a c => by rw [lo 0 (by decide), w3 k a c]
        refine ⟨c1.fr (fun j hj => m0 j (by omega) (by omega) (by omega) (by omega)), ⟨by rw [lo 0 (by decide), w5, c2.1], by rw [q0 4 (by decide) (by decide)]; exact c2.2⟩, by rw [lo 0 (by decide)]; exact w4, ⟨by rw [lo 230 (by decide)]; exact w1.2.1, by rw [m0 231 (by decide) (by decide) (by decide) (by decide)]; exact c4.2⟩, by rw [q0 14 (by decide) (by decide), m0 1 (by decide) (by decide) (by decide) (by decide)]; exact c5, by rw [m0 241 (by decide) (by decide) (by decide) (by decide)]; exact c6, RCi.fr (q0 5 (by decide) (by decide)) (q0 8 (by decide) (by decide)) (q0 9 (by decide) (by decide)) (fun j hj => m0 j (by omega) (by omega) (by omega) (by omega)) c7, ?_, by rw [lo 169 (by decide)]; exact w1.2.2.1, by rw [lo 170 (by decide)]; exact w1.2.2.2.1⟩
        rw [tv_far (M' := M2) (M := M0) (t := 160) (fun j x y => lo j (by omega))]; exact w1.2.2.2.2
      · have k0 : ∀ k, k ≠ 1 → k ≠ 12 → ¬ (14 ≤ k ∧ k ≤ 24) → k ≠ 32 → k ≠ 48 → M2.1 300 k = M1.1 300 k := fun k a c d e f => y3 k a c d e f
        refine ⟨⟨⟨r1.1.1.few h00.2 hO x6 x7 (fun k hk => (x8 k hk).1), by unfold WR; rw [x10]; exact r1.1.2.1, by rw [x9]; exact r1.1.2.2.1, by rw [x11]; exact r1.1.2.2.2.1, fun i hi => by rw [(x8 i (by have : (i : Int) < A.1.1 0 1 := hi; omega)).2]; exact r1.1.2.2.2.2 i hi⟩, by rw [x12]; exact r1.2.1, by rw [n0 425 (by decide) (by decide)]; exact r1.2.2⟩, ⟨by rw [x5, r2.1], by rw [y4]; exact r2.2⟩, x4, ⟨y6, by rw [n0 413 (by decide) (by decide)]; exact r4.2⟩, by rw [x13, n0 431 (by decide) (by decide)]; exact r5, by rw [n0 430 (by decide) (by decide)]; exact r6, ?_, by rw [k0 49 (by decide) (by decide) (by decide) (by decide) (by decide)]; exact r8, by rw [n0 400 (by decide) (by decide)]; exact r9⟩
        have o8 := hn.2.2.2.2.2.2.2
        show RRi M2 A.2.2.2.2.2.2
        cases ho : A.2.2.2.2.2.2 with
        | none =>
          rw [ho] at r7
          show (M2.1 300 48).toInt = 0
          rw [x14]; exact r7
        | some o =>
          obtain ⟨I, i0, i1⟩ := o
          rw [ho] at r7 o8
          obtain ⟨q1, ⟨s1, s2, s3, s4, s5, s6, s7⟩, q3, q4⟩ := r7
          have p1 := o8.1
          have i00 := p1.1.1
          have i01 := p1.1.2.1
          exact ⟨by rw [x14]; exact q1, ⟨s1.few i00.2 i01.2 x6 x7 (fun k hk => (x8 k hk).1), by rw [n0 452 (by decide) (by decide)]; exact s2, by rw [n0 451 (by decide) (by decide)]; exact s3, by rw [k0 50 (by decide) (by decide) (by decide) (by decide) (by decide)]; exact s4, fun i hi => by rw [(x8 i (by omega)).2]; exact s5 i hi, by rw [k0 49 (by decide) (by decide) (by decide) (by decide) (by decide)]; exact s6, by rw [n0 453 (by decide) (by decide)]; exact s7⟩, by rw [n0 454 (by decide) (by decide)]; exact q3, by rw [n0 454 (by decide) (by decide)]; exact q4⟩
      · obtain ⟨o1, o2, o3, o4, o5, o6, o7, o8⟩ := hn
        refine ⟨o1, o2, ?_, ?_, ?_, ⟨Nat.zero_le _, o6.2⟩, o7, o8.up (by omega)⟩
        · show A.1.1 0 4 ≤ _; push_cast; omega
        · show 0 ≤ A.2.1.1 + 1 ∧ A.2.1.1 + 1 ≤ _; push_cast; omega
        · show 0 ≤ A.2.1.2 ∧ A.2.1.2 ≤ _; push_cast; omega
      · exact LW.m hL0 (n0 400 (by decide) (by decide)) (fun _ j hj => ⟨n0 j (by unfold lG at hj; omega) (by unfold lG at hj; omega), by rw [y2]⟩)
    · rw [u1] at x1; cases x1
    · rw [u1] at x1; cases x1
    · have eq : T1 = T2 := by rw [u1] at x1; exact Sum.inr.inj x1
      subst eq
      obtain ⟨⟨y1, y2, y3, y4, y5, y6⟩, x5, x6, x7, x8, x9, x10⟩ := x4
      have n0 : ∀ j, j ≠ 300 → (j < 402 ∨ 411 < j) → M2.1 j = M1.1 j := fun j a c => y1 j a (by omega) (by omega) (by omega) (by omega) (by omega) (by omega) (by omega) (by omega) (by omega) (by omega)
      have lo : ∀ j, j < 300 → M2.1 j = M0.1 j := fun j hj => by rw [n0 j (by omega) (by omega), e9]
      refine ⟨Int32.toInt_inj.mp y5, fun _ => out (i32_eq u3 x3) y2, ((T1, 0, fun _ _ => 0), A.2.1, -1, (0, A.2.2.2.1.2), (0, A.2.2.2.2.1.2), A.2.2.2.2.2.1, none), ?_, ?_, ?_, ?_⟩
      · have m0 : ∀ j, j ≠ 0 → j ≠ 230 → j ≠ 220 → (j < 160 ∨ 170 < j) → ¬ (100 ≤ j ∧ j ≤ 110) → j < 300 → M2.1 j = M.1 j := fun j a c d e f g => by rw [lo j g, w2 j a c d e f]
        have q0 : ∀ k, k ≠ 5 → k ≠ 11 → k ≠ 14 → M2.1 0 k = M.1 0 k := fun k a c d => by rw [lo 0 (by decide), w3 k a c d]
        refine ⟨⟨?_, TBt.moved w9 (lo _ (by decide)) (lo _ (by decide)) (lo _ (by decide)), by rw [lo 220 (by decide)]; exact w7, Nat.zero_le _, fun i hi => absurd hi (Nat.not_lt_zero _)⟩, ⟨by rw [q0 3 (by decide) (by decide) (by decide)]; exact c2.1, by rw [q0 4 (by decide) (by decide) (by decide)]; exact c2.2⟩, by rw [lo 0 (by decide)]; exact w4, ⟨by rw [lo 230 (by decide)]; exact w1.2.1, by rw [m0 231 (by decide) (by decide) (by decide) (by decide) (by decide) (by decide)]; exact c4.2⟩, ⟨by rw [lo 0 (by decide)]; exact w5, fun i hi => absurd hi (Nat.not_lt_zero _)⟩, by rw [m0 241 (by decide) (by decide) (by decide) (by decide) (by decide) (by decide)]; exact c6, ?_, ?_, by rw [lo 169 (by decide)]; exact w1.2.2.1, by rw [lo 170 (by decide)]; exact w1.2.2.2.1⟩
        · rw [← w8]; exact tv_far (fun j x y => lo j (by omega))
        · show (M2.1 0 5).toInt = 0
          rw [lo 0 (by decide)]; exact w6
        · rw [tv_far (M' := M2) (M := M0) (t := 160) (fun j x y => lo j (by omega))]; exact w1.2.2.2.2
      · refine ⟨⟨x7, x8, fun i hi => absurd hi (Nat.not_lt_zero _)⟩, ⟨by rw [x6]; exact r2.1, by rw [y4]; exact r2.2⟩, x5, ⟨y6, by rw [n0 413 (by decide) (by decide)]; exact r4.2⟩, ⟨Or.inr ⟨rfl, x9⟩, fun i hi => absurd hi (Nat.not_lt_zero _)⟩, by rw [n0 430 (by decide) (by decide)]; exact r6, x10, by rw [y3 49 (by decide) (by decide) (by decide) (by decide) (by decide)]; exact r8, by rw [n0 400 (by decide) (by decide)]; exact r9⟩
      · obtain ⟨o1, o2, o3, o4, o5, o6, o7, o8⟩ := hn
        refine ⟨u2.inv, trivial, ?_, ?_, ?_, ⟨Nat.zero_le _, o6.2⟩, Nat.zero_le _, trivial⟩
        · show T1 0 4 ≤ _; rw [u2.2.2.1]; push_cast; omega
        · show 0 ≤ A.2.1.1 ∧ A.2.1.1 ≤ _; push_cast; omega
        · show 0 ≤ A.2.1.2 ∧ A.2.1.2 ≤ _; push_cast; omega
      · exact LW.m hL0 (n0 400 (by decide) (by decide)) (fun _ j hj => ⟨n0 j (by unfold lG at hj; omega) (by unfold lG at hj; omega), by rw [y2]⟩)
  · obtain ⟨-, q1, q2⟩ := q
    subst q1
    refine ⟨1, e1, 8, _, by decide, rt M1 hR, fun z2 M2 h2 => ?_⟩
    rw [hR.2.2.2.1.1] at h2
    rcases h2 with ⟨v1, -, v3⟩ | ⟨v1, -⟩
    · subst v3
      exact ⟨code_at, fun h => absurd h (by decide), A, hC.frr FR.c2, hR.frr hO FR.c2, hn.up (by omega), hL.frr FR.c2⟩
    · exact absurd v1 q2
end OJ
