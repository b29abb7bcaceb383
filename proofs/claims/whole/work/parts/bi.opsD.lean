/-- a call without a helper -/
def OD (b : Nat) (Γ : gW) (gt : Option Nat) (n : Nat) (yC : MethodName) (μC : gY) (av : List Value) (yR : MethodName) (μR : gY) (av2 : List Value) (M : gM) : Prop :=
  ∃ (d : Nat) (P : Int32 → gM → Prop), d ≤ 20 ∧ Ct Γ yC μC d av M (g_qi P) ∧ ∀ (z : Int32) (M1 : gM), P z M1 → ∃ (d2 : Nat) (P2 : Int32 → gM → Prop), d2 ≤ 20 ∧ Ct Γ yR μR d2 av2 M1 (g_qi P2) ∧ ∀ (z2 : Int32) (M2 : gM), P2 z2 M2 → z = z2 ∧ ∃ A' : gAb, RC A' M2 ∧ RR A' M2 ∧ AOK A' (n + 1) ∧ LW b Γ gt M2
section ODs
variable {b : Nat} {Γ : gW} {gt : Option Nat} {M : gM} {A : gAb} {n : Nat}
theorem LW.fc {M1 : gM} (hL : LW b Γ gt M) (h : FC M M1) : LW b Γ gt M1 := LW.m hL (h.1 400 (Or.inr (by decide))) (fun _ j hj => h.2 j hj)
theorem LW.frr {M1 : gM} (hL : LW b Γ gt M) (f : FR M M1) : LW b Γ gt M1 := LW.m hL (f.1 400 (Or.inl (by unfold rN; omega))) (fun _ j hj => ⟨f.1 j (Or.inr (by unfold lG at hj; omega)), by rw [f.2.2.2]⟩)
theorem o_dro (hL : LW b Γ gt M) (hC : RC A M) (hR : RR A M) (hn : AOK A n) {yC : MethodName} {μC : gY} {av : List Value} {d : Nat} (hd : d ≤ 20) {P : Int32 → gM → Prop} (hc : Ct Γ yC μC d av M (g_qi P)) {pz : Int32 → Prop} (hP : ∀ z M1, P z M1 → FC M M1 ∧ pz z) {yR : MethodName} {μR : gY} {av2 : List Value} {d2 : Nat} (hd2 : d2 ≤ 20) {P2 : gM → Int32 → gM → Prop} (hc2 : ∀ M1 : gM, RR A M1 → Ct Γ yR μR d2 av2 M1 (g_qi (P2 M1))) {qz : Int32 → Prop} (hP2 : ∀ M1 z M2, RR A M1 → P2 M1 z M2 → FR M1 M2 ∧ qz z) (hzz : ∀ z z2, pz z → qz z2 → z = z2) : OD b Γ gt n yC μC av yR μR av2 M := by
  have hO := hn.o1
  refine ⟨d, P, hd, hc, fun z M1 h => ?_⟩
  obtain ⟨f, p⟩ := hP z M1 h
  have hR1 := hR.fc hO (fun j hj => f.1 j (Or.inr hj))
  refine ⟨d2, P2 M1, hd2, hc2 M1 hR1, fun z2 M2 h2 => ?_⟩
  obtain ⟨f2, q⟩ := hP2 M1 z2 M2 hR1 h2
  exact ⟨hzz z z2 p q, A, (hC.fc f).frr f2, hR1.frr hO f2, hn.up (by omega), (hL.fc f).frr f2⟩
theorem o_fault (hL : LW b Γ gt M) (hC : RC A M) (hR : RR A M) (hn : AOK A n) : OD b Γ gt n yX5_fault μX5_fault [.ref 0] yX6_fault μX6_fault [.ref 300] M :=
  o_dro hL hC hR hn (d := 0) (by decide) (x_fault hL.1) (pz := fun z => z.toInt = A.2.2.1) (fun z M1 h => ⟨h.1 ▸ FC.rf, by rw [h.2]; exact hC.2.2.1⟩) (d2 := 0) (by decide) (fun M1 h1 => r_fault hL.2.1) (qz := fun z => z.toInt = A.2.2.1) (fun M1 z M2 hr h => ⟨h.1 ▸ FR.c, by rw [h.2]; exact hr.2.2.1⟩) (fun z z2 h1 h2 => i32_eq h1 h2)
theorem o_judge (hL : LW b Γ gt M) (hC : RC A M) (hR : RR A M) (hn : AOK A n) {g s m k : Int32} : OD b Γ gt n yX5_judge μX5_judge [.ref 0, .int g, .int s, .int m, .int k] yX6_judge μX6_judge [.ref 300, .int g, .int s, .int m, .int k] M :=
  o_dro hL hC hR hn (d := 2) (by decide) (x_judge hL.1 (hC.tb hn)) (pz := fun z => z.toInt = troubT A.1.1 g.toInt s.toInt m.toInt k.toInt) (fun z M1 h => ⟨h.1 ▸ FC.rf, by rw [h.2, v_troub (hC.tb hn), hC.1.1]⟩) (d2 := 3) (by decide) (fun M1 h1 => r_judge hL.2.1 hn.1.1 h1.1.1) (qz := fun z => z.toInt = troubT A.1.1 g.toInt s.toInt m.toInt k.toInt) (fun M1 z M2 hr h => ⟨h.1 ▸ FR.c, h.2⟩) (fun z z2 h1 h2 => i32_eq h1 h2)
theorem o_still (hL : LW b Γ gt M) (hC : RC A M) (hR : RR A M) (hn : AOK A n) (h5 : n ≤ 600) : OD b Γ gt n yX5_still μX5_still [.ref 0] yX6_still μX6_still [.ref 300] M := by
  have hd4 := hn.2.2.1
  refine o_dro hL hC hR hn (d := 5) (by decide) (x_still hL.1 hn.1 (by omega) hC.1.1 hC.1.2.1) (pz := fun z => stillZ A.1.1 z.toInt) (fun z M1 h => ⟨FC.sp h.1, h.2⟩) (d2 := 6) (by decide) (fun M1 h1 => r_still hL.2.1 hn.1 (by omega) h1.1.1) (qz := fun z => stillZ A.1.1 z.toInt) (fun M1 z M2 hr h => ?_) (fun z z2 h1 h2 => i32_eq (stillZ_uniq h1 h2) rfl)
  obtain ⟨a1, a2, a3, a4⟩ := h
  refine ⟨⟨fun j hj => ?_, a4, fun k hk => ?_, a3⟩, a1⟩
  · rw [a2 j (by unfold rN at hj; omega) (by unfold rN at hj; omega) (by unfold rN at hj; omega)]
    exact g_u_ne (by unfold rN at hj; omega)
  · rw [a2 300 (by decide) (by decide) (by decide), g_u_eq, if_neg (by unfold rK at hk; omega)]
theorem RIB.fr2 {I : gSt} {M M' : gM} (h : RIB I M) (hf : ∀ j, (402 ≤ j ∧ j ≤ 405) ∨ j = 411 ∨ (451 ≤ j ∧ j ≤ 454) → M'.1 j = M.1 j) (hk : ∀ k, 48 ≤ k ∧ k ≤ 50 → M'.1 300 k = M.1 300 k) : RIB I M' := by
  obtain ⟨a, b, c, d, e, f, g⟩ := h
  refine ⟨?_, by rw [hf 452 (by omega)]; exact b, by rw [hf 451 (by omega)]; exact c, by rw [hk 50 (by omega)]; exact d, by rw [hf 411 (by omega)]; exact e, by rw [hk 49 (by omega)]; exact f, by rw [hf 453 (by omega)]; exact g⟩
  unfold CR at a ⊢
  rw [hf 402 (by omega), hf 403 (by omega), hf 404 (by omega), hf 405 (by omega)]; exact a
theorem RRi.fr2 {M M' : gM} (hf : ∀ j, (402 ≤ j ∧ j ≤ 405) ∨ j = 411 ∨ (451 ≤ j ∧ j ≤ 454) → M'.1 j = M.1 j) (hk : ∀ k, 48 ≤ k ∧ k ≤ 50 → M'.1 300 k = M.1 300 k) : ∀ {o : Option (gSt × Int × Int)}, RRi M o → RRi M' o
  | none, h => by show (M'.1 300 48).toInt = 0; rw [hk 48 (by omega)]; exact h
  | some (I, i0, i1), h => by
    obtain ⟨a, b, c, d⟩ := h
    have e := hf 454 (by omega)
    exact ⟨by rw [hk 48 (by omega)]; exact a, b.fr2 hf hk, by rw [e]; exact c, by rw [e]; exact d⟩
/-- the town, the Book and what was refused change -/
theorem RR.up {S' : gSt} {r' : Int × Int} {M' : gM} (h : RR A M) (hS : RSB S' M') (h6 : (M'.1 406 0).toInt = r'.1 ∧ (M'.1 406 1).toInt = r'.2) (hf : ∀ j, rN j → j ≠ 406 → j ≠ 407 → j ≠ 425 → M'.1 j = M.1 j) (hk : ∀ k, rK k → k ≠ 12 → k ≠ 24 → M'.1 300 k = M.1 300 k) : RR (S', r', A.2.2) M' := by
  obtain ⟨-, -, r3, r4, r5, r6, r7, r8, r9⟩ := h
  have f : ∀ j, rN j ∧ j ≠ 406 ∧ j ≠ 407 ∧ j ≠ 425 → M'.1 j = M.1 j := fun j hj => hf j hj.1 hj.2.1 hj.2.2.1 hj.2.2.2
  have k0 : ∀ k, rK k ∧ k ≠ 12 ∧ k ≠ 24 → M'.1 300 k = M.1 300 k := fun k q => hk k q.1 q.2.1 q.2.2
  exact ⟨hS, h6, by rw [k0 23 (by unfold rK; omega)]; exact r3, by rw [k0 14 (by unfold rK; omega), f 413 (by unfold rN; omega)]; exact r4, by rw [k0 32 (by unfold rK; omega), f 431 (by unfold rN; omega)]; exact r5, by rw [f 430 (by unfold rN; omega)]; exact r6, RRi.fr2 (fun j hj => f j (by unfold rN; omega)) (fun k q => k0 k (by unfold rK; omega)) r7, by rw [k0 49 (by unfold rK; omega)]; exact r8, by rw [f 400 (by unfold rN; omega)]; exact r9⟩
theorem RC.up {S' : gSt} {r' : Int × Int} {M' : gM} (h : RC A M) (hS : CSB S' M') (h3 : (M'.1 0 3).toInt = r'.1 ∧ (M'.1 0 4).toInt = r'.2) (hf : ∀ j, cN j → j ≠ 0 → j ≠ 220 → j ≠ 221 → ¬ (100 ≤ j ∧ j ≤ 110) → M'.1 j = M.1 j) (h0 : ∀ k, k ≠ 3 → k ≠ 4 → M'.1 0 k = M.1 0 k) : RC (S', r', A.2.2) M' := by
  obtain ⟨-, -, c3, c4, c5, c6, c7, c8, c9, c10⟩ := h
  have f : ∀ j, cN j ∧ j ≠ 0 ∧ j ≠ 220 ∧ j ≠ 221 ∧ ¬ (100 ≤ j ∧ j ≤ 110) → M'.1 j = M.1 j := fun j hj => hf j hj.1 hj.2.1 hj.2.2.1 hj.2.2.2.1 hj.2.2.2.2
  refine ⟨hS, h3, by rw [h0 11 (by decide) (by decide)]; exact c3, by rw [f 230 (by unfold cN; omega), f 231 (by unfold cN; omega)]; exact c4, by rw [h0 14 (by decide) (by decide), f 1 (by unfold cN; omega)]; exact c5, by rw [f 241 (by unfold cN; omega)]; exact c6, RCi.fr (h0 5 (by decide) (by decide)) (h0 8 (by decide) (by decide)) (h0 9 (by decide) (by decide)) (fun j hj => f j (by unfold cN; omega)) c7, ?_, by rw [f 169 (by unfold cN; omega)]; exact c9, by rw [f 170 (by unfold cN; omega)]; exact c10⟩
  rw [tv_far (M' := M') (M := M) (t := 160) (fun j a b => f j (by unfold cN; omega))]; exact c8
theorem AOK.set {S' : gSt} {r' : Int × Int} (hn : AOK A n) (h1 : INV S'.1) (h2 : HIST S'.2.1 S'.1 S'.2.2) (h3 : S'.1 0 4 ≤ 60 * (n : Int) + 60) (h4 : 0 ≤ r'.1 ∧ r'.1 ≤ (n : Int) + 1) (h5 : 0 ≤ r'.2 ∧ r'.2 ≤ (n : Int) + 1) : AOK (S', r', A.2.2) (n + 1) := by
  obtain ⟨-, -, -, -, -, o6, o7, o8⟩ := hn
  refine ⟨h1, h2, ?_, ?_, ?_, o6, o7, o8.up (by omega)⟩
  · show S'.1 0 4 ≤ _; push_cast; omega
  · show 0 ≤ r'.1 ∧ r'.1 ≤ _; push_cast; omega
  · show 0 ≤ r'.2 ∧ r'.2 ≤ _; push_cast; omega
theorem frB.c {M1 : gM} (f : frB M M1) : (∀ j, 300 ≤ j → M1.1 j = M.1 j) ∧ M1.2 = M.2 ∧ (∀ j, lG j → M1.1 j = M.1 j) ∧ (∀ j, cN j → j ≠ 0 → j ≠ 220 → j ≠ 221 → ¬ (100 ≤ j ∧ j ≤ 110) → M1.1 j = M.1 j) ∧ M1.1 0 = M.1 0 := ⟨fun j hj => f.1 j (by omega) (by omega) (by omega), f.2, fun j hj => f.1 j (by unfold lG at hj; omega) (by unfold lG at hj; omega) (by unfold lG at hj; omega), fun j _ _ a c d => f.1 j a c (by omega), f.1 0 (by decide) (by decide) (by decide)⟩
/-- a gift -/
theorem o_give (hL : LW b Γ gt M) (hC : RC A M) (hR : RR A M) (hn : AOK A n) (h5 : n ≤ 600) {p s m k : Int32} : OD b Γ gt n yX5_give μX5_give [.ref 0, .int p, .int s, .int m, .int k] yX6_give μX6_give [.ref 300, .int p, .int s, .int m, .int k] M := by
  have hO := hn.o1
  have hr0 := hn.2.2.2.1
  have hst := hn.2.2.2.2.1
  have hd4 := hn.2.2.1
  have c1 := hC.1
  have c2 := hC.2.1
  refine ⟨3, _, by decide, x_give hL.1 hn.1 hC.1 (by rw [c2.2]; omega), fun z M1 h => ?_⟩
  have hg := c1.2.2.2.1
  have refuse : ∀ (x : Int32), x.toInt = (M.1 0 4).toInt + 1 → M1 = g_u M 0 4 x → RC (A.1, (A.2.1.1, A.2.1.2 + 1), A.2.2) M1 ∧ M1.2 = M.2 ∧ ∀ j, j ≠ 0 → M1.1 j = M.1 j := fun x hx e => by
    have n0 : ∀ j, j ≠ 0 → M1.1 j = M.1 j := fun j hj => by rw [e, g_u_ne hj]
    have k0 : ∀ q, q ≠ 4 → M1.1 0 q = M.1 0 q := fun q hq => by rw [e, g_u_eq, if_neg hq]
    exact ⟨hC.up (c1.fr (fun j hj => n0 j (by omega))) ⟨by rw [k0 3 (by decide)]; exact c2.1, by rw [e, g_u_eq, if_pos rfl, hx, c2.2]⟩ (fun j _ a _ _ _ => n0 j a) (fun q _ hq => k0 q hq), by rw [e]; rfl, n0⟩
  have same : (∀ j, 300 ≤ j → M1.1 j = M.1 j) ∧ M1.2 = M.2 ∧ ∀ j, lG j → M1.1 j = M.1 j := by
    rcases h with ⟨-, -, x, hx, e⟩ | ⟨-, -, -, x, hx, e⟩ | ⟨-, -, -, -, f⟩
    · obtain ⟨-, h2, h3⟩ := refuse x hx e; exact ⟨fun j hj => h3 j (by omega), h2, fun j hj => h3 j (by unfold lG at hj; omega)⟩
    · obtain ⟨-, h2, h3⟩ := refuse x hx e; exact ⟨fun j hj => h3 j (by omega), h2, fun j hj => h3 j (by unfold lG at hj; omega)⟩
    · exact ⟨f.c.1, f.c.2.1, f.c.2.2.1⟩
  have hR1 : RR A M1 := hR.fc hO same.1
  have r1 := hR1.1
  have r2 := hR1.2.1
  have hL1 : LW b Γ gt M1 := LW.m hL (same.1 400 (by decide)) (fun _ j hj => ⟨same.2.2 j hj, by rw [same.2.1]⟩)
  refine ⟨3, _, by decide, r_give hL.2.1 hn.1.1 r1.1 (by rw [r1.2.1]; omega) (by rw [r2.2]; omega), fun z2 M2 h2 => ?_⟩
  rw [r1.2.1] at h2
  have fin : ∀ (x y : Int32), x.toInt = (M.1 0 4).toInt + 1 → M1 = g_u M 0 4 x → y.toInt = (M1.1 406 1).toInt + 1 → M2 = g_u (g_u M1 300 1 0) 406 1 y → ∃ A' : gAb, RC A' M2 ∧ RR A' M2 ∧ AOK A' (n + 1) ∧ LW b Γ gt M2 := fun x y hx ex hy ey => by
    obtain ⟨u1, -, -⟩ := refuse x hx ex
    have n0 : ∀ j, j ≠ 300 → j ≠ 406 → M2.1 j = M1.1 j := fun j a c => by rw [ey, g_u_ne c, g_u_ne a]
    have k0 : ∀ q, rK q → M2.1 300 q = M1.1 300 q := fun q hq => by rw [ey, g_u_ne (by decide), g_u_eq, if_neg (by unfold rK at hq; omega)]
    have e0 : M2.1 406 0 = M1.1 406 0 := by rw [ey, g_u_eq, if_neg (by decide), g_u_ne (by decide)]
    have e1 : (M2.1 406 1).toInt = A.2.1.2 + 1 := by rw [ey, g_u_eq, if_pos rfl, hy, r2.2]
    have hS2 : RSB A.1 M2 := ⟨RS.fr r1.1 hO (fun j hj => n0 j (by omega) (by omega)) (fun i hi => by rw [n0 409 (by decide) (by decide)]) (k0 12 (by unfold rK; omega)), by rw [k0 24 (by unfold rK; omega)]; exact r1.2.1, by rw [n0 425 (by decide) (by decide)]; exact r1.2.2⟩
    refine ⟨(A.1, (A.2.1.1, A.2.1.2 + 1), A.2.2), u1.fr (fun j hj => n0 j (by unfold cN at hj; omega) (by unfold cN at hj; omega)), hR1.up hS2 ⟨by rw [e0]; exact r2.1, e1⟩ (fun j hj a _ _ => n0 j (by unfold rN at hj; omega) a) (fun q hq _ _ => k0 q hq), hn.set hn.1 hn.2.1 (by omega) (by show 0 ≤ A.2.1.1 ∧ A.2.1.1 ≤ _; omega) (by show 0 ≤ A.2.1.2 + 1 ∧ A.2.1.2 + 1 ≤ _; omega), LW.m hL1 (n0 400 (by decide) (by decide)) (fun _ j hj => ⟨n0 j (by unfold lG at hj; omega) (by unfold lG at hj; omega), by rw [ey]; rfl⟩)⟩
  rcases h with ⟨t1, t2, x, hx, ex⟩ | ⟨t1, t2, t3, x, hx, ex⟩ | ⟨t1, t2, t3, t4, t5⟩ <;> rcases h2 with ⟨u1, u2, y, hy, ey⟩ | ⟨u1, u2, u3, y, hy, ey⟩ | ⟨u1, u2, u3, v, hv, nw⟩
  · exact ⟨i32_eq t2 u2, fin x y hx ex hy ey⟩
  · exact absurd u1 t1
  · exact absurd u1 t1
  · exact absurd t1 u1
  · exact ⟨i32_eq t3 u3, fin x y hx ex hy ey⟩
  · omega
  · exact absurd t1 u1
  · omega
  · refine ⟨i32_eq t3 u3, ?_⟩
    obtain ⟨hp0, hk0, hs0, hcan⟩ := troub_can hn.1.1 t1
    have eg : (g_u M1 300 1 0).1 300 24 = M1.1 300 24 := by rw [g_u_eq, if_neg (by decide)]
    have hRB : RSB (gvS A.1 p.toInt.toNat s.toInt.toNat m.toInt k.toInt.toNat) M2 := RSB.make (M := g_u M1 300 1 0) (v := v) (p := p) (o := k) (w := s) ⟨r1.1.code, by rw [eg]; exact r1.2.1, by rw [g_u_ne (by decide)]; exact r1.2.2⟩ hn.1 t2 (by omega) (by omega) (by omega) hcan hv (by
      rw [eg, r1.2.1, g_u_ne (show (407 : Nat) ≠ 300 by decide)]
      exact nw)
    obtain ⟨n1, n2, n3, n4, n5, n6, n7⟩ := nw
    have fb := t5.c
    refine ⟨(gvS A.1 p.toInt.toNat s.toInt.toNat m.toInt k.toInt.toNat, A.2.1, A.2.2), (hC.up t4 ⟨by rw [fb.2.2.2.2]; exact c2.1, by rw [fb.2.2.2.2]; exact c2.2⟩ fb.2.2.2.1 (fun q _ _ => by rw [fb.2.2.2.2])).fr (fun j hj => by rw [n1 j (by unfold cN at hj; omega) (by unfold cN at hj; omega) (by unfold cN at hj; omega)]; exact g_u_ne (by unfold cN at hj; omega)), hR1.up hRB ⟨by rw [n1 406 (by decide) (by decide) (by decide), g_u_ne (by decide)]; exact r2.1, by rw [n1 406 (by decide) (by decide) (by decide), g_u_ne (by decide)]; exact r2.2⟩ (fun j hj _ a c => by rw [n1 j (by unfold rN at hj; omega) a c]; exact g_u_ne (by unfold rN at hj; omega)) (fun q hq _ a => by rw [n3 q a, g_u_eq, if_neg (by unfold rK at hq; omega)]), hn.set (INV.gift hn.1 hcan) (HIST.give hn.1 r1.1.2.2.1 hcan hn.2.1) ?_ (by omega) (by omega), LW.m hL1 (by rw [n1 400 (by decide) (by decide) (by decide)]; exact g_u_ne (by decide)) (fun _ j hj => ⟨by rw [n1 j (by unfold lG at hj; omega) (by unfold lG at hj; omega) (by unfold lG at hj; omega)]; exact g_u_ne (by unfold lG at hj; omega), by rw [n2]; rfl⟩)⟩
    show giftT A.1.1 p.toInt.toNat s.toInt.toNat m.toInt k.toInt.toNat 0 4 ≤ _
    rw [gift_o (by decide)]
    omega
end ODs
