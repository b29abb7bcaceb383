/-- a call without an answer -/
def OV (b : Nat) (Γ : gW) (gt : Option Nat) (n : Nat) (yC : MethodName) (μC : gY) (av : List Value) (yR : MethodName) (μR : gY) (av2 : List Value) (M : gM) : Prop :=
  ∃ (d : Nat) (P : gM → Prop), d ≤ 20 ∧ Ct Γ yC μC d av M (g_qv P) ∧ ∀ (M1 : gM), P M1 → ∃ (d2 : Nat) (P2 : gM → Prop), d2 ≤ 20 ∧ Ct Γ yR μR d2 av2 M1 (g_qv P2) ∧ ∀ (M2 : gM), P2 M2 → ∃ A' : gAb, RC A' M2 ∧ RR A' M2 ∧ AOK A' (n + 1) ∧ LW b Γ gt M2
theorem RW.lt30 {T : gTw} {r r' : Nat → Int32} (h : RW T r) (h0 : T 0 0 ≤ 6) (h1 : T 0 1 ≤ 12) (e : ∀ k, k < 30 → r' k = r k) : RW T r' := by
  refine ⟨fun p hp => ?_, fun i hi => by rw [e i (by omega)]; exact h.2 i hi⟩
  obtain ⟨a1, a2, a3, a4⟩ := h.1 p hp
  refine ⟨by rw [e _ (by omega)]; exact a1, by rw [e _ (by omega)]; exact a2, by rw [e _ (by omega)]; exact a3, fun i => ?_⟩
  rw [a4 i]
  constructor
  · rintro ⟨u, v⟩; exact ⟨u, by rw [e i (by omega)]; exact v⟩
  · rintro ⟨u, v⟩; rw [e i (by omega)] at v; exact ⟨u, v⟩
theorem img_n {M : gM} {j : Nat} (h : j ≠ 300) (h2 : ¬ (451 ≤ j ∧ j ≤ 454)) : (imgM M).1 j = M.1 j := by
  rw [imgM, g_u_ne (by omega), g_u_ne (by omega), rowI_ne (by omega), rowI_ne (by omega), rowI_ne (by omega), img0, g_u_ne h, g_u_ne h, g_u_ne h, g_u_ne h]
theorem img_0 {M : gM} {k : Nat} : (imgM M).1 300 k = (img0 M).1 300 k := by
  rw [imgM, g_u_ne (by decide), g_u_ne (by decide), rowI_ne (by decide), rowI_ne (by decide), rowI_ne (by decide)]
theorem img_k {M : gM} {k : Nat} (h : k ≠ 1) (h2 : ¬ (48 ≤ k ∧ k ≤ 50)) : (imgM M).1 300 k = M.1 300 k := by
  rw [img_0, img0, g_u_eq, if_neg (by omega), g_u_eq, if_neg (by omega), g_u_eq, if_neg (by omega), g_u_eq, if_neg h]
theorem img_48 {M : gM} : (imgM M).1 300 48 = 1 := by
  rw [img_0, img0, g_u_eq, if_neg (by decide), g_u_eq, if_neg (by decide), g_u_eq, if_pos rfl]
theorem img_49 {M : gM} : (imgM M).1 300 49 = M.1 300 24 := by
  rw [img_0, img0, g_u_eq, if_neg (by decide), g_u_eq, if_pos rfl]
theorem img_50 {M : gM} : (imgM M).1 300 50 = M.1 300 12 := by
  rw [img_0, img0, g_u_eq, if_pos rfl]
theorem img_451 {M : gM} {k : Nat} (h : k < 30) : (imgM M).1 451 k = M.1 407 k := by
  rw [imgM, g_u_ne (by decide), g_u_ne (by decide), rowI_ne (by decide), rowI_ne (by decide), rowI_at, if_pos h]
theorem img_452 {M : gM} {k : Nat} (h : k < 12) : (imgM M).1 452 k = M.1 409 k := by
  rw [imgM, g_u_ne (by decide), g_u_ne (by decide), rowI_ne (by decide), rowI_at, if_pos h]
theorem img_453 {M : gM} {k : Nat} (h : k < 9 * (M.1 300 24).toInt.toNat) : (imgM M).1 453 k = M.1 425 k := by
  rw [imgM, g_u_ne (by decide), g_u_ne (by decide), rowI_at, if_pos h]
theorem img_4540 {M : gM} : (imgM M).1 454 0 = M.1 406 0 := by rw [imgM, g_u_eq, if_neg (by decide), g_u_eq, if_pos rfl]
theorem img_4541 {M : gM} : (imgM M).1 454 1 = M.1 406 1 := by rw [imgM, g_u_eq, if_pos rfl]
theorem res_n {M : gM} {j : Nat} (h : j ≠ 300) (h2 : j ≠ 406) (h3 : j ≠ 407) (h4 : j ≠ 409) (h5 : j ≠ 425) : (resM M).1 j = M.1 j := by
  rw [resM, g_u_ne h2, g_u_ne h2, rowI_ne h5, rowI_ne h4, rowI_ne h3, res0, g_u_ne h, g_u_ne h, g_u_ne h]
theorem res_0 {M : gM} {k : Nat} : (resM M).1 300 k = (res0 M).1 300 k := by
  rw [resM, g_u_ne (by decide), g_u_ne (by decide), rowI_ne (by decide), rowI_ne (by decide), rowI_ne (by decide)]
theorem res_k {M : gM} {k : Nat} (h : k ≠ 1) (h2 : k ≠ 12) (h3 : k ≠ 24) : (resM M).1 300 k = M.1 300 k := by
  rw [res_0, res0, g_u_eq, if_neg h2, g_u_eq, if_neg h3, g_u_eq, if_neg h]
theorem res_24 {M : gM} : (resM M).1 300 24 = M.1 300 49 := by rw [res_0, res0, g_u_eq, if_neg (by decide), g_u_eq, if_pos rfl]
theorem res_12 {M : gM} : (resM M).1 300 12 = M.1 300 50 := by rw [res_0, res0, g_u_eq, if_pos rfl]
theorem res_407 {M : gM} {k : Nat} (h : k < 30) : (resM M).1 407 k = M.1 451 k := by
  rw [resM, g_u_ne (by decide), g_u_ne (by decide), rowI_ne (by decide), rowI_ne (by decide), rowI_at, if_pos h]
theorem res_409 {M : gM} {k : Nat} (h : k < 12) : (resM M).1 409 k = M.1 452 k := by
  rw [resM, g_u_ne (by decide), g_u_ne (by decide), rowI_ne (by decide), rowI_at, if_pos h]
theorem res_425 {M : gM} {k : Nat} (h : k < 9 * (M.1 300 49).toInt.toNat) : (resM M).1 425 k = M.1 453 k := by
  rw [resM, g_u_ne (by decide), g_u_ne (by decide), rowI_at, if_pos h]
theorem res_4060 {M : gM} : (resM M).1 406 0 = M.1 454 0 := by rw [resM, g_u_eq, if_neg (by decide), g_u_eq, if_pos rfl]
theorem res_4061 {M : gM} : (resM M).1 406 1 = M.1 454 1 := by rw [resM, g_u_eq, if_pos rfl]
section OG
variable {b : Nat} {Γ : gW} {gt : Option Nat} {M : gM} {A : gAb} {n : Nat}
theorem o_image (hL : LW b Γ gt M) (hC : RC A M) (hR : RR A M) (hn : AOK A n) : OV b Γ gt n yX5_image μX5_image [.ref 0] yX6_image μX6_image [.ref 300] M := by
  have hO := hn.o1
  have h00 := hn.1.1.1
  obtain ⟨c1, c2, c3, c4, c5, c6, c7, c8, c9, c10⟩ := id hC
  have hg := c1.2.2.2.1
  refine ⟨1, _, by decide, x_image hL.1 hn.1 hC.1, fun M1 h => ?_⟩
  obtain ⟨g1, g2, g3, g4, g5⟩ := h
  have hR1 : RR A M1 := hR.fc hO (fun j hj => g2.1 j (by omega) (by omega) (by omega) (by omega))
  obtain ⟨r1, r2, r3, r4, r5, r6, r7, r8, r9⟩ := id hR1
  have hL1 : LW b Γ gt M1 := LW.m hL (g2.1 400 (by decide) (by decide) (by decide) (by decide)) (fun _ j hj => ⟨g2.1 j (by unfold lG at hj; omega) (by unfold lG at hj; omega) (by unfold lG at hj; omega) (by unfold lG at hj; omega), by rw [g2.2.1]⟩)
  refine ⟨1, _, by decide, r_image hL.2.1 (by rw [r1.2.1]; omega), fun M2 h2 => ?_⟩
  subst h2
  have e0 : ∀ j, j < 300 → (imgM M1).1 j = M1.1 j := fun j hj => img_n (by omega) (by omega)
  refine ⟨(A.1, A.2.1, A.2.2.1, A.2.2.2.1, A.2.2.2.2.1, A.2.2.2.2.2.1, some (A.1, A.2.1.1, A.2.1.2)), ?_, ?_, ?_, ?_⟩
  · have k0 : ∀ k, k ≠ 5 → k ≠ 8 → k ≠ 9 → (imgM M1).1 0 k = M.1 0 k := fun k p q r => by rw [e0 0 (by decide), g2.2.2 k p q r]
    have n0 : ∀ j, j ≠ 0 → j ≠ 222 → j ≠ 223 → ¬ (140 ≤ j ∧ j ≤ 150) → j < 300 → (imgM M1).1 j = M.1 j := fun j p q r s t => by rw [e0 j t, g2.1 j p q r s]
    refine ⟨c1.fr (fun j hj => n0 j (by omega) (by omega) (by omega) (by omega) (by omega)), by rw [k0 3 (by decide) (by decide) (by decide), k0 4 (by decide) (by decide) (by decide)]; exact c2, by rw [k0 11 (by decide) (by decide) (by decide)]; exact c3, by rw [n0 230 (by decide) (by decide) (by decide) (by decide) (by decide), n0 231 (by decide) (by decide) (by decide) (by decide) (by decide)]; exact c4, by rw [k0 14 (by decide) (by decide) (by decide), n0 1 (by decide) (by decide) (by decide) (by decide) (by decide)]; exact c5, by rw [n0 241 (by decide) (by decide) (by decide) (by decide) (by decide)]; exact c6, ⟨by rw [e0 0 (by decide)]; exact g5, g1.fr (fun j hj => e0 j (by omega)), by rw [e0 0 (by decide), g3]; exact c2.1, by rw [e0 0 (by decide), g4]; exact c2.2⟩, ?_, by rw [n0 169 (by decide) (by decide) (by decide) (by decide) (by decide)]; exact c9, by rw [n0 170 (by decide) (by decide) (by decide) (by decide) (by decide)]; exact c10⟩
    rw [tv_far (M' := imgM M1) (M := M) (t := 160) (fun j x y => n0 j (by omega) (by omega) (by omega) (by omega) (by omega))]; exact c8
  · have n0 : ∀ j, j ≠ 300 → ¬ (451 ≤ j ∧ j ≤ 454) → (imgM M1).1 j = M1.1 j := fun j p q => img_n p q
    have k0 : ∀ k, k ≠ 1 → ¬ (48 ≤ k ∧ k ≤ 50) → (imgM M1).1 300 k = M1.1 300 k := fun k p q => img_k p q
    have hRS : RS A.1.1 (imgM M1) := RS.fr r1.1 hO (fun j hj => n0 j (by omega) (by omega)) (fun i hi => by rw [n0 409 (by decide) (by decide)]) (k0 12 (by decide) (by decide))
    refine ⟨⟨hRS, by rw [k0 24 (by decide) (by decide)]; exact r1.2.1, by rw [n0 425 (by decide) (by decide)]; exact r1.2.2⟩, by rw [n0 406 (by decide) (by decide)]; exact r2, by rw [k0 23 (by decide) (by decide)]; exact r3, by rw [k0 14 (by decide) (by decide), n0 413 (by decide) (by decide)]; exact r4, by rw [k0 32 (by decide) (by decide), n0 431 (by decide) (by decide)]; exact r5, by rw [n0 430 (by decide) (by decide)]; exact r6, ⟨by rw [img_48]; rfl, ⟨hRS.1, fun i hi => ?_, r1.1.2.2.1.lt30 h00.2 hO (fun k hk => img_451 hk), by rw [img_50]; exact r1.1.2.2.2.1, hRS.2.2.2.2, by rw [img_49]; exact r1.2.1, fun i hi j hj => ?_⟩, by rw [img_4540]; exact r2.1, by rw [img_4541]; exact r2.2⟩, by rw [img_49, r1.2.1]; omega, by rw [n0 400 (by decide) (by decide)]; exact r9⟩
    · rw [img_452 (by have : A.1.1 0 1 ≤ 12 := hO; have : (i : Int) < A.1.1 0 1 := hi; omega)]; exact r1.1.2.1 i hi
    · rw [img_453 (by rw [r1.2.1]; have : i < A.1.2.1 := hi; omega)]; exact r1.2.2 i hi j hj
  · obtain ⟨o1, o2, o3, o4, o5, o6, o7, o8⟩ := hn
    refine ⟨o1, o2, ?_, ?_, ?_, o6, o7, o1, o2, ?_, ?_, ?_⟩
    · show A.1.1 0 4 ≤ _; push_cast; omega
    · show 0 ≤ A.2.1.1 ∧ A.2.1.1 ≤ _; push_cast; omega
    · show 0 ≤ A.2.1.2 ∧ A.2.1.2 ≤ _; push_cast; omega
    · push_cast; omega
    · push_cast; omega
    · push_cast; omega
  · exact LW.m hL1 (img_n (by decide) (by decide)) (fun _ j hj => ⟨e0 j (by unfold lG at hj; omega), rfl⟩)
theorem o_restore (hL : LW b Γ gt M) (hC : RC A M) (hR : RR A M) (hn : AOK A n) : OD b Γ gt n yX5_restore μX5_restore [.ref 0] yX6_restore μX6_restore [.ref 300] M := by
  have hO := hn.o1
  have h00 := hn.1.1.1
  cases ho : A.2.2.2.2.2.2 with
  | none =>
    have c7 := hC.2.2.2.2.2.2.1
    rw [ho] at c7
    have c7' : (M.1 0 5).toInt = 0 := c7
    refine o_dro hL hC hR hn (d := 1) (by decide) (x_restore hL.1 (S := A.1) hn.1 (fun h => absurd c7' h)) (pz := fun z => z.toInt = 0) (fun z M1 h => ?_) (d2 := 1) (by decide) (fun M1 h1 => r_restore hL.2.1 h1.2.2.2.2.2.2.2.1) (qz := fun z => z.toInt = 0) (fun M1 z M2 hr h => ?_) (fun z z2 h1 h2 => i32_eq h1 h2)
    · rcases h with ⟨-, h1, h2⟩ | ⟨h1, -⟩
      · exact ⟨h2 ▸ FC.rf, h1⟩
      · exact absurd c7' h1
    · have r7 := hr.2.2.2.2.2.2.1
      rw [ho] at r7
      rcases h with ⟨-, h1, h2⟩ | ⟨h1, -⟩
      · exact ⟨h2 ▸ FR.c, h1⟩
      · exact absurd r7 h1
  | some o =>
    obtain ⟨I, i0, i1⟩ := o
    have c7 := hC.2.2.2.2.2.2.1
    rw [ho] at c7
    obtain ⟨q1, q2, q3, q4⟩ := c7
    have o8 := hn.2.2.2.2.2.2.2
    rw [ho] at o8
    obtain ⟨p1, p2, p3, p4, p5⟩ := o8
    refine ⟨1, _, by decide, x_restore hL.1 (S := I) p1 (fun _ => q2), fun z M1 h => ?_⟩
    rcases h with ⟨h1, -⟩ | ⟨-, t1, t2, t3, t4, t5⟩
    · omega
    have hR1 : RR A M1 := hR.fc hO (fun j hj => t3.1 j (by omega) (by omega) (by omega) (by omega))
    obtain ⟨r1, r2, r3, r4, r5, r6, r7, r8, r9⟩ := id hR1
    have hL1 : LW b Γ gt M1 := LW.m hL (t3.1 400 (by decide) (by decide) (by decide) (by decide)) (fun _ j hj => ⟨t3.1 j (by unfold lG at hj; omega) (by unfold lG at hj; omega) (by unfold lG at hj; omega) (by unfold lG at hj; omega), by rw [t3.2.1]⟩)
    rw [ho] at r7
    obtain ⟨s1, s2, s3, s4⟩ := r7
    obtain ⟨w1, w2, w3, w4, w5, w6, w7⟩ := s2
    refine ⟨1, _, by decide, r_restore hL.2.1 r8, fun z2 M2 h2 => ?_⟩
    rcases h2 with ⟨h1, -⟩ | ⟨-, v1, v2⟩
    · omega
    subst v2
    have e0 : ∀ j, j < 300 → (resM M1).1 j = M1.1 j := fun j hj => res_n (by omega) (by omega) (by omega) (by omega) (by omega)
    have n0 : ∀ j, j ≠ 300 → j ≠ 406 → j ≠ 407 → j ≠ 409 → j ≠ 425 → (resM M1).1 j = M1.1 j := fun j a b c d e => res_n a b c d e
    have i00 := p1.1.1
    have i01 := p1.1.2.1
    have hS2 : RSB I (resM M1) := by
      refine ⟨⟨?_, fun i hi => ?_, w3.lt30 i00.2 i01.2 (fun k hk => res_407 hk), by rw [res_12]; exact w4, by rw [n0 411 (by decide) (by decide) (by decide) (by decide) (by decide)]; exact w5⟩, by rw [res_24]; exact w6, fun i hi j hj => ?_⟩
      · unfold CR at w1 ⊢
        rw [n0 402 (by decide) (by decide) (by decide) (by decide) (by decide), n0 403 (by decide) (by decide) (by decide) (by decide) (by decide), n0 404 (by decide) (by decide) (by decide) (by decide) (by decide), n0 405 (by decide) (by decide) (by decide) (by decide) (by decide)]; exact w1
      · rw [res_409 (by omega)]; exact w2 i hi
      · rw [res_425 (by rw [w6]; omega)]; exact w7 i hi j hj
    refine ⟨i32_eq t1 v1, (I, (i0, i1), A.2.2), ?_, ?_, hn.set p1 p2 (by omega) (by show 0 ≤ i0 ∧ i0 ≤ _; omega) (by show 0 ≤ i1 ∧ i1 ≤ _; omega), ?_⟩
    · exact (hC.up t2 ⟨by rw [t4]; exact q3, by rw [t5]; exact q4⟩ (fun j _ a c d e => t3.1 j a c d e) (fun k a c => t3.2.2 k a c)).fr (fun j hj => e0 j (by unfold cN at hj; omega))
    · exact RR.up (M := M1) hR1 hS2 ⟨by rw [res_4060]; exact s3, by rw [res_4061]; exact s4⟩ (fun j hj a c d => n0 j (by unfold rN at hj; omega) a c (by unfold rN at hj; omega) d) (fun k hk a c => res_k (by unfold rK at hk; omega) a c)
    · exact LW.m hL1 (n0 400 (by decide) (by decide) (by decide) (by decide) (by decide)) (fun _ j hj => ⟨e0 j (by unfold lG at hj; omega), rfl⟩)
end OG
