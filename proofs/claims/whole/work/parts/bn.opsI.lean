section OI
variable {b : Nat} {Γ : gW} {gt : Option Nat} {M : gM} {A : gAb} {n : Nat}
theorem o_week (hL : LW b Γ gt M) (hC : RC A M) (hR : RR A M) (hn : AOK A n) {w : Int32} : OH b Γ gt n yL_week μL_week hhL_week [.ref 0, .int w, .ref 500] yX6_week μX6_week [.ref 300, .int w] M := by
  have hO := hn.o1
  obtain ⟨c1, c2, c3, c4, c5, c6, c7, c8, c9, c10⟩ := id hC
  refine ⟨17, _, by decide, h_week hL.1 hL.2.2.2.1 (by decide) (x_week hL.1 hC.1.1 (hC.tb hn) hn.1 hR.1.1.2.2.1 (ord := A.2.2.2.2.2.1) c6) (fun E M' h => h.1), fun Γ1 v M1 h => ?_⟩
  obtain ⟨eΓ, h⟩ := h
  refine ⟨eΓ, ?_⟩
  rcases h with ⟨z, M0, ⟨rg, ⟨f, f2, f3, f4⟩, s3⟩, e1, e2⟩ | ⟨e1, q⟩
  · have e9 : M1.1 = M0.1 := by rw [e2]; rfl
    have hR0 : RR A M1 := by rw [e2]; exact (hR.fc hO (fun j hj => f.1 j (by omega) (by omega) (by omega) (by omega) (by omega))).ul hO
    obtain ⟨r1, r2, r3, r4, r5, r6, r7, r8, r9⟩ := id hR0
    have hL0 : LW b Γ gt M1 := by
      refine LW.m hL (by rw [e9]; exact f.1 400 (by decide) (by decide) (by decide) (by decide) (by decide)) (fun _ j hj => ⟨by rw [e9]; exact f.1 j (by unfold lG at hj; omega) (by unfold lG at hj; omega) (by unfold lG at hj; omega) (by unfold lG at hj; omega) (by unfold lG at hj; omega), ?_⟩)
      rw [e2, g_ul_ne (by unfold lG at hj; omega), f.2.1]
    refine ⟨0, e1, 15, _, by decide, r_week hL.2.1 hn.1 r1.1 (ord := A.2.2.2.2.2.1) r6, fun z2 M2 h2 => ?_⟩
    rcases h2 with ⟨v1, -⟩ | ⟨v1, ⟨p1, p2, p3, p4, p5, p6⟩, v5⟩
    · exact absurd rg v1
    have lo : ∀ j, j < 300 → M2.1 j = M0.1 j := fun j hj => by rw [p1 j (by omega) (by omega) (by omega) (by omega) (by omega) (by omega) (by omega), e9]
    have n0 : ∀ j, j ≠ 300 → ¬ (426 ≤ j ∧ j ≤ 431) → M2.1 j = M1.1 j := fun j a c => p1 j a (by omega) (by omega) (by omega) (by omega) (by omega) (by omega)
    have k0 : ∀ k, k ≠ 1 → (k < 32 ∨ 38 ≤ k) → M2.1 300 k = M1.1 300 k := fun k a c => by rw [p3 k c, g_u_eq, if_neg a]
    -- the class's side, but for the order
    have cls : ∀ (om : Nat) (od : Nat → Int), (M2.1 0 14).toInt = (om : Int) → (∀ i, i < om → (M2.1 1 i).toInt = od i) → RC (A.1, A.2.1, A.2.2.1, A.2.2.2.1, (om, od), (wkT A.1.1 A.2.2.2.2.2.1).2.2.1, A.2.2.2.2.2.2) M2 := fun om od g1 g2 => by
      have m0 : ∀ j, j ≠ 0 → j ≠ 1 → j ≠ 240 → j ≠ 241 → (j < 180 ∨ 190 < j) → j < 300 → M2.1 j = M.1 j := fun j a c d e g h => by rw [lo j h, f.1 j a c d e g]
      have q0 : ∀ k, k ≠ 14 → M2.1 0 k = M.1 0 k := fun k hk => by rw [lo 0 (by decide), f.2.2 k hk]
      refine ⟨c1.fr (fun j hj => m0 j (by omega) (by omega) (by omega) (by omega) (by omega) (by omega)), by rw [q0 3 (by decide), q0 4 (by decide)]; exact c2, by rw [q0 11 (by decide)]; exact c3, by rw [m0 230 (by decide) (by decide) (by decide) (by decide) (by decide) (by decide), m0 231 (by decide) (by decide) (by decide) (by decide) (by decide) (by decide)]; exact c4, ⟨g1, g2⟩, fun i hi => by rw [lo 241 (by decide)]; exact f2 i hi, RCi.fr (q0 5 (by decide)) (q0 8 (by decide)) (q0 9 (by decide)) (fun j hj => m0 j (by omega) (by omega) (by omega) (by omega) (by omega) (by omega)) c7, ?_, by rw [m0 169 (by decide) (by decide) (by decide) (by decide) (by decide) (by decide)]; exact c9, by rw [m0 170 (by decide) (by decide) (by decide) (by decide) (by decide) (by decide)]; exact c10⟩
      rw [tv_far (M' := M2) (M := M) (t := 160) (fun j x y => m0 j (by omega) (by omega) (by omega) (by omega) (by omega) (by omega))]; exact c8
    have rf : ∀ (om : Nat) (od : Nat → Int), ((M2.1 300 32).toInt = (om : Int) ∨ (om = 0 ∧ (M2.1 300 32).toInt = -1)) → (∀ i, i < om → (M2.1 431 i).toInt = od i) → RR (A.1, A.2.1, A.2.2.1, A.2.2.2.1, (om, od), (wkT A.1.1 A.2.2.2.2.2.1).2.2.1, A.2.2.2.2.2.2) M2 := fun om od g1 g2 => by
      refine ⟨⟨RS.fr r1.1 hO (fun j hj => n0 j (by omega) (by omega)) (fun i hi => by rw [n0 409 (by decide) (by decide)]) (k0 12 (by decide) (by decide)), by rw [k0 24 (by decide) (by decide)]; exact r1.2.1, by rw [n0 425 (by decide) (by decide)]; exact r1.2.2⟩, by rw [n0 406 (by decide) (by decide)]; exact r2, by rw [k0 23 (by decide) (by decide)]; exact r3, by rw [k0 14 (by decide) (by decide), n0 413 (by decide) (by decide)]; exact r4, ⟨g1, g2⟩, p4, RRi.fr2 (fun j hj => n0 j (by omega) (by omega)) (fun k q => k0 k (by omega) (by omega)) r7, by rw [k0 49 (by decide) (by decide)]; exact r8, by rw [n0 400 (by decide) (by decide)]; exact r9⟩
    have ok : ∀ (om : Nat) (od : Nat → Int), om ≤ 6 → AOK (A.1, A.2.1, A.2.2.1, A.2.2.2.1, (om, od), (wkT A.1.1 A.2.2.2.2.2.1).2.2.1, A.2.2.2.2.2.2) (n + 1) := fun om od h6 => by
      obtain ⟨o1, o2, o3, o4, o5, o6, o7, o8⟩ := hn
      refine ⟨o1, o2, ?_, ?_, ?_, o6, h6, o8.up (by omega)⟩
      · show A.1.1 0 4 ≤ _; push_cast; omega
      · show 0 ≤ A.2.1.1 ∧ A.2.1.1 ≤ _; push_cast; omega
      · show 0 ≤ A.2.1.2 ∧ A.2.1.2 ≤ _; push_cast; omega
    refine ⟨by rw [p3 1 (by omega)]; exact code_at, fun _ => ?_, ?_⟩
    · rw [p2]
      rw [e2, g_ul_at, i32_eq v5 s3]
      exact if_pos rfl
    have lw : LW b Γ gt M2 := LW.m hL0 (n0 400 (by decide) (by decide)) (fun _ j hj => ⟨n0 j (by unfold lG at hj; omega) (by unfold lG at hj; omega), by rw [p2]⟩)
    by_cases h1 : (wkT A.1.1 A.2.2.2.2.2.1).2.2.2 = 1
    · obtain ⟨g1, g2⟩ := f3 h1
      obtain ⟨i1, i2⟩ := p5 h1
      exact ⟨_, cls (owe A.1.1 6) (wkT A.1.1 A.2.2.2.2.2.1).2.2.1 (by rw [lo 0 (by decide)]; exact g1) (fun i hi => by rw [lo 1 (by decide)]; exact g2 i hi), rf _ _ (Or.inl i1) i2, ok _ _ (owe_le _ 6), lw⟩
    · obtain ⟨g1, g2⟩ := f4 h1
      obtain ⟨i1, i2⟩ := p6 h1
      exact ⟨_, cls A.2.2.2.2.1.1 A.2.2.2.2.1.2 (by rw [lo 0 (by decide), g1]; exact c5.1) (fun i hi => by rw [lo 1 (by decide), g2]; exact c5.2 i hi), rf _ _ (by rw [i1]; exact r5.1) (by rw [i2]; exact r5.2), ok _ _ hn.2.2.2.2.2.2.1, lw⟩
  · obtain ⟨-, q1, q2⟩ := q
    subst q1
    refine ⟨1, e1, 15, _, by decide, r_week hL.2.1 hn.1 hR.1.1 (ord := A.2.2.2.2.2.1) hR.2.2.2.2.2.1, fun z2 M2 h2 => ?_⟩
    rcases h2 with ⟨v1, -, v3⟩ | ⟨v1, -⟩
    · subst v3
      exact ⟨code_at, fun h => absurd h (by decide), A, hC.frr FR.c2, hR.frr hO FR.c2, hn.up (by omega), hL.frr FR.c2⟩
    · exact absurd v1 q2
end OI
