/-- a call without a helper -/
def OD (b : Nat) (Γ : gW) (gt : Option Nat) (n : Nat) (yC : MethodName) (μC : gY) (av : List Value) (yR : MethodName) (μR : gY) (av2 : List Value) (M : gM) : Prop :=
  ∃ (d : Nat) (P : Int32 → gM → Prop), d ≤ 20 ∧ Ct Γ yC μC d av M (g_qi P) ∧ ∀ (z : Int32) (M1 : gM), P z M1 → ∃ (d2 : Nat) (P2 : Int32 → gM → Prop), d2 ≤ 20 ∧ Ct Γ yR μR d2 av2 M1 (g_qi P2) ∧ ∀ (z2 : Int32) (M2 : gM), P2 z2 M2 → z = z2 ∧ ∃ A' : gAb, RC A' M2 ∧ RR A' M2 ∧ AOK A' (n + 1) ∧ LW b Γ gt M2
section ODs
variable {b : Nat} {Γ : gW} {gt : Option Nat} {M : gM} {A : gAb} {n : Nat}
theorem LW.fc {M1 : gM} (hL : LW b Γ gt M) (h : FC M M1) : LW b Γ gt M1 := LW.m hL (h.1 400 (Or.inr (by decide))) (fun _ j hj => h.2 j hj)
theorem LW.frr {M1 : gM} (hL : LW b Γ gt M) (f : FR M M1) : LW b Γ gt M1 := LW.m hL (f.1 400 (Or.inl (by unfold rN; omega))) (fun _ j hj => ⟨f.1 j (Or.inr (by unfold lG at hj; omega)), by rw [f.2.2.2]⟩)
theorem o_dro (hL : LW b Γ gt M) (hC : RC A M) (hR : RR A M) (hn : AOK A n) {yC : MethodName} {μC : gY} {av : List Value} {d : Nat} (hd : d ≤ 20) {P : Int32 → gM → Prop} (hc : Ct Γ yC μC d av M (g_qi P)) {pz : Int32 → Prop} (hP : ∀ z M1, P z M1 → FC M M1 ∧ pz z) {yR : MethodName} {μR : gY} {av2 : List Value} {d2 : Nat} (hd2 : d2 ≤ 20) {P2 : gM → Int32 → gM → Prop} (hc2 : ∀ M1 : gM, RR A M1 → Ct Γ yR μR d2 av2 M1 (g_qi (P2 M1))) {qz : Int32 → Prop} (hP2 : ∀ M1 z M2, RR A M1 → P2 M1 z M2 → FR M1 M2 ∧ qz z) (hzz : ∀ z z2, pz z → qz z2 → z = z2) : OD b Γ gt n yC μC av yR μR av2 M := by
  have hO := hn.o1
  refine ⟨d, P, hd, hc, fun z M1 h => ?_⟩
  obtain ⟨f, p⟩ := hP z M1 h
  have hR1 := hR.fc hO (fun j hj => f.1 j (Or.inr hj))
  refine ⟨d2, P2 M1, hd2, hc2 M1 hR1, fun z2 M2 h2 => ?_⟩
  obtain ⟨f2, q⟩ := hP2 M1 z2 M2 hR1 h2
  exact ⟨hzz z z2 p q, A, (hC.fc f).frr f2, hR1.frr hO f2, hn.up (by omega), (hL.fc f).frr f2⟩
theorem o_fault (hL : LW b Γ gt M) (hC : RC A M) (hR : RR A M) (hn : AOK A n) : OD b Γ gt n yX5_fault μX5_fault [.ref 0] yX6_fault μX6_fault [.ref 300] M :=
  o_dro hL hC hR hn (d := 0) (by decide) (x_fault hL.1) (pz := fun z => z.toInt = A.2.2.1) (fun z M1 h => ⟨h.1 ▸ FC.rf, by rw [h.2]; exact hC.2.2.1⟩) (d2 := 0) (by decide) (fun M1 h1 => r_fault hL.2.1) (qz := fun z => z.toInt = A.2.2.1) (fun M1 z M2 hr h => ⟨h.1 ▸ FR.c, by rw [h.2]; exact hr.2.2.1⟩) (fun z z2 h1 h2 => i32_eq h1 h2)
theorem o_judge (hL : LW b Γ gt M) (hC : RC A M) (hR : RR A M) (hn : AOK A n) {g s m k : Int32} : OD b Γ gt n yX5_judge μX5_judge [.ref 0, .int g, .int s, .int m, .int k] yX6_judge μX6_judge [.ref 300, .int g, .int s, .int m, .int k] M :=
  o_dro hL hC hR hn (d := 2) (by decide) (x_judge hL.1 (hC.tb hn)) (pz := fun z => z.toInt = troubT A.1.1 g.toInt s.toInt m.toInt k.toInt) (fun z M1 h => ⟨h.1 ▸ FC.rf, by rw [h.2, v_troub (hC.tb hn), hC.1.1]⟩) (d2 := 3) (by decide) (fun M1 h1 => r_judge hL.2.1 hn.1.1 h1.1.1) (qz := fun z => z.toInt = troubT A.1.1 g.toInt s.toInt m.toInt k.toInt) (fun M1 z M2 hr h => ⟨h.1 ▸ FR.c, h.2⟩) (fun z z2 h1 h2 => i32_eq h1 h2)
theorem o_still (hL : LW b Γ gt M) (hC : RC A M) (hR : RR A M) (hn : AOK A n) (h5 : n ≤ 600) : OD b Γ gt n yX5_still μX5_still [.ref 0] yX6_still μX6_still [.ref 300] M := by
  have hd4 := hn.2.2.1
  refine o_dro hL hC hR hn (d := 5) (by decide) (x_still hL.1 hn.1 (by omega) hC.1.1 hC.1.2.1) (pz := fun z => stillZ A.1.1 z.toInt) (fun z M1 h => ⟨FC.sp h.1, h.2⟩) (d2 := 6) (by decide) (fun M1 h1 => r_still hL.2.1 hn.1 (by omega) h1.1.1) (qz := fun z => stillZ A.1.1 z.toInt) (fun M1 z M2 hr h => ?_) (fun z z2 h1 h2 => i32_eq (stillZ_uniq h1 h2) rfl)
  obtain ⟨a1, a2, a3, a4⟩ := h
  refine ⟨⟨fun j hj => ?_, a4, fun k hk => ?_, a3⟩, a1⟩
  · rw [a2 j (by unfold rN at hj; omega) (by unfold rN at hj; omega) (by unfold rN at hj; omega)]
    exact g_u_ne (by unfold rN at hj; omega)
  · rw [a2 300 (by decide) (by decide) (by decide), g_u_eq, if_neg (by unfold rK at hk; omega)]
/-- a gift -/
theorem o_give (hL : LW b Γ gt M) (hC : RC A M) (hR : RR A M) (hn : AOK A n) (h5 : n ≤ 600) {p s m k : Int32} : OD b Γ gt n yX5_give μX5_give [.ref 0, .int p, .int s, .int m, .int k] yX6_give μX6_give [.ref 300, .int p, .int s, .int m, .int k] M := by
  have hO := hn.o1
  have hst := hn.2.2.2.2.1
  obtain ⟨c1, c2, c3, c4, c5, c6, c7, c8, c9, c10⟩ := id hC
  refine ⟨3, _, by decide, x_give hL.1 hn.1 hC.1 (by rw [c2.2]; omega), fun z M1 h => ?_⟩
  have hg := c1.2.2.2.1
  -- a refusal on both sides
  have refuse : ∀ (x : Int32), x.toInt = (M.1 0 4).toInt + 1 → M1 = g_u M 0 4 x → RC (A.1, (A.2.1.1, A.2.1.2 + 1), A.2.2) M1 ∧ (∀ j, 300 ≤ j → M1.1 j = M.1 j) ∧ M1.2 = M.2 ∧ ∀ j, j ≠ 0 → M1.1 j = M.1 j := fun x hx e => by
    have n0 : ∀ j, j ≠ 0 → M1.1 j = M.1 j := fun j hj => by rw [e, g_u_ne hj]
    have k0 : ∀ q, q ≠ 4 → M1.1 0 q = M.1 0 q := fun q hq => by rw [e, g_u_eq, if_neg hq]
    refine ⟨⟨c1.fr (fun j hj => n0 j (by omega)), ⟨by rw [k0 3 (by decide)]; exact c2.1, by rw [e, g_u_eq, if_pos rfl, hx, c2.2]⟩, by rw [k0 11 (by decide)]; exact c3, by rw [n0 230 (by decide), n0 231 (by decide)]; exact c4, by rw [k0 14 (by decide), n0 1 (by decide)]; exact c5, by rw [n0 241 (by decide)]; exact c6, RCi.fr (k0 5 (by decide)) (k0 8 (by decide)) (k0 9 (by decide)) (fun j hj => n0 j (by omega)) c7, ?_, by rw [n0 169 (by decide)]; exact c9, by rw [n0 170 (by decide)]; exact c10⟩, fun j hj => n0 j (by omega), by rw [e]; rfl, n0⟩
    rw [tv_far (M' := M1) (M := M) (t := 160) (fun j a b => n0 j (by omega))]; exact c8
  have same : (∀ j, 300 ≤ j → M1.1 j = M.1 j) ∧ M1.2 = M.2 ∧ ∀ j, lG j → M1.1 j = M.1 j := by
    rcases h with ⟨-, -, x, hx, e⟩ | ⟨-, -, -, x, hx, e⟩ | ⟨-, -, -, -, f⟩
    · obtain ⟨-, h1, h2, h3⟩ := refuse x hx e; exact ⟨h1, h2, fun j hj => h3 j (by unfold lG at hj; omega)⟩
    · obtain ⟨-, h1, h2, h3⟩ := refuse x hx e; exact ⟨h1, h2, fun j hj => h3 j (by unfold lG at hj; omega)⟩
    · exact ⟨fun j hj => f.1 j (by omega) (by omega) (by omega), f.2, fun j hj => f.1 j (by unfold lG at hj; omega) (by unfold lG at hj; omega) (by unfold lG at hj; omega)⟩
  have hR1 : RR A M1 := hR.fc hO same.1
  obtain ⟨r1, r2, r3, r4, r5, r6, r7, r8, r9⟩ := id hR1
  have hL1 : LW b Γ gt M1 := LW.m hL (same.1 400 (by decide)) (fun _ j hj => ⟨same.2.2 j hj, by rw [same.2.1]⟩)
  refine ⟨3, _, by decide, r_give hL.2.1 hn.1.1 r1.1 (by rw [r1.2.1]; omega) (by rw [r2.2]; omega), fun z2 M2 h2 => ?_⟩
  rw [r1.2.1] at h2
  have refuse2 : ∀ (x : Int32), x.toInt = (M1.1 406 1).toInt + 1 → M2 = g_u (g_u M1 300 1 0) 406 1 x → RR (A.1, (A.2.1.1, A.2.1.2 + 1), A.2.2) M2 ∧ (∀ j, j < 300 → M2.1 j = M1.1 j) ∧ M2.2 = M1.2 ∧ M2.1 400 = M1.1 400 := fun x hx e => by
    have n0 : ∀ j, j ≠ 300 → j ≠ 406 → M2.1 j = M1.1 j := fun j a c => by rw [e, g_u_ne c, g_u_ne a]
    have k0 : ∀ q, rK q → M2.1 300 q = M1.1 300 q := fun q hq => by rw [e, g_u_ne (by decide), g_u_eq, if_neg (by unfold rK at hq; omega)]
    have e0 : M2.1 406 0 = M1.1 406 0 := by rw [e, g_u_eq, if_neg (by decide), g_u_ne (by decide)]
    have hb : RR A (g_u M1 300 1 0) := hR1.code hO
    refine ⟨⟨⟨RS.fr r1.1 hO (fun j hj => n0 j (by omega) (by omega)) (fun i hi => by rw [n0 409 (by decide) (by decide)]) (k0 12 (by unfold rK; omega)), by rw [k0 24 (by unfold rK; omega)]; exact r1.2.1, by rw [n0 425 (by decide) (by decide)]; exact r1.2.2⟩, ⟨by rw [e0]; exact r2.1, by rw [e, g_u_eq, if_pos rfl, hx, r2.2]⟩, by rw [k0 23 (by unfold rK; omega)]; exact r3, by rw [k0 14 (by unfold rK; omega), n0 413 (by decide) (by decide)]; exact r4, by rw [k0 32 (by unfold rK; omega), n0 431 (by decide) (by decide)]; exact r5, by rw [n0 430 (by decide) (by decide)]; exact r6, ?_, by rw [k0 49 (by unfold rK; omega)]; exact r8, by rw [n0 400 (by decide) (by decide)]; exact r9⟩, fun j hj => n0 j (by omega) (by omega), by rw [e]; rfl, n0 400 (by decide) (by decide)⟩
    revert r7
    show RRi M1 A.2.2.2.2.2.2 → RRi M2 A.2.2.2.2.2.2
    cases A.2.2.2.2.2.2 with
    | none => intro r7; show (M2.1 300 48).toInt = 0; rw [k0 48 (by unfold rK; omega)]; exact r7
    | some o =>
      obtain ⟨I, i0, i1⟩ := o
      intro r7
      obtain ⟨q1, q2, q3, q4⟩ := r7
      obtain ⟨s1, s2, s3, s4, s5, s6, s7⟩ := q2
      refine ⟨by rw [k0 48 (by unfold rK; omega)]; exact q1, ⟨?_, by rw [n0 452 (by decide) (by decide)]; exact s2, by rw [n0 451 (by decide) (by decide)]; exact s3, by rw [k0 50 (by unfold rK; omega)]; exact s4, by rw [n0 411 (by decide) (by decide)]; exact s5, by rw [k0 49 (by unfold rK; omega)]; exact s6, by rw [n0 453 (by decide) (by decide)]; exact s7⟩, by rw [n0 454 (by decide) (by decide)]; exact q3, by rw [n0 454 (by decide) (by decide)]; exact q4⟩
      unfold CR at s1 ⊢
      rw [n0 402 (by decide) (by decide), n0 403 (by decide) (by decide), n0 404 (by decide) (by decide), n0 405 (by decide) (by decide)]; exact s1
  have okR : AOK (A.1, (A.2.1.1, A.2.1.2 + 1), A.2.2) (n + 1) := by
    obtain ⟨o1, o2, o3, o4, o5, o6, o7, o8⟩ := hn
    refine ⟨o1, o2, ?_, ?_, ?_, o6, o7, o8.up (by omega)⟩
    · show A.1.1 0 4 ≤ _; push_cast; omega
    · show 0 ≤ A.2.1.1 ∧ A.2.1.1 ≤ _; push_cast; omega
    · show 0 ≤ A.2.1.2 + 1 ∧ A.2.1.2 + 1 ≤ _; push_cast; omega
  have fin : ∀ (x y : Int32), x.toInt = (M.1 0 4).toInt + 1 → M1 = g_u M 0 4 x → y.toInt = (M1.1 406 1).toInt + 1 → M2 = g_u (g_u M1 300 1 0) 406 1 y → ∃ A' : gAb, RC A' M2 ∧ RR A' M2 ∧ AOK A' (n + 1) ∧ LW b Γ gt M2 := fun x y hx ex hy ey => by
    obtain ⟨u1, -, -, -⟩ := refuse x hx ex
    obtain ⟨v1, v2, v3, v4⟩ := refuse2 y hy ey
    exact ⟨_, u1.fr (fun j hj => v2 j (by unfold cN at hj; omega)), v1, okR, LW.m hL1 v4 (fun _ j hj => ⟨v2 j (by unfold lG at hj; omega), by rw [v3]⟩)⟩
  rcases h with ⟨t1, t2, x, hx, ex⟩ | ⟨t1, t2, t3, x, hx, ex⟩ | ⟨t1, t2, t3, t4, t5⟩ <;> rcases h2 with ⟨u1, u2, y, hy, ey⟩ | ⟨u1, u2, u3, y, hy, ey⟩ | ⟨u1, u2, u3, v, hv, nw⟩
  · exact ⟨i32_eq t2 u2, fin x y hx ex hy ey⟩
  · exact absurd u1 t1
  · exact absurd u1 t1
  · exact absurd t1 u1
  · exact ⟨i32_eq t3 u3, fin x y hx ex hy ey⟩
  · omega
  · exact absurd t1 u1
  · omega
  · refine ⟨i32_eq t3 u3, ?_⟩
    obtain ⟨hcan, hp0, hs0, hk0⟩ := troub_can hn.1 t1
    have hRB : RSB (gvS A.1 p.toInt.toNat s.toInt.toNat m.toInt k.toInt.toNat) M2 := RSB.make (M := g_u M1 300 1 0) ⟨r1.1.code, by rw [g_u_eq, if_neg (by decide)]; exact r1.2.1, by rw [g_u_ne (by decide)]; exact r1.2.2⟩ hn.1 (by omega) (by omega) (by omega) (by omega) hcan hv (by
      rw [g_u_ne (by decide), g_u_eq, if_neg (by decide)]
      exact nw)
    sorry
end ODs
