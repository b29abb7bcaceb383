section OE
variable {b : Nat} {Γ : gW} {gt : Option Nat} {M : gM} {A : gAb} {n : Nat}
theorem RS.un {T : gTw} {M1 M2 : gM} {r : Nat → Int} {nI pI b5 b6 b7 b8 : Int32} (hI : INV T) (h : RS T M1) (ho : unOK T r) (hn : nI.toInt = r 2) (hp : pI.toInt = r 0) (h5 : b5.toInt = r 5) (h6 : b6.toInt = r 6) (h7 : b7.toInt = r 7) (h8 : b8.toInt = r 8) (hf : ∀ j, j ≠ 300 → j ≠ 407 → M2.1 j = M1.1 j) (h12 : M2.1 300 12 = M1.1 300 12) (hrow : M2.1 407 = unRow (M1.1 407) (T 0 1).toNat (r 0).toNat (r 1).toNat (r 3).toNat nI pI b5 b6 b7 b8) : RS (unT T r) M2 := by
  obtain ⟨a1, a2, a3, a4, a5⟩ := h
  have e : ∀ f i, f ≠ 3 → f ≠ 4 → f ≠ 5 → f ≠ 6 → unT T r f i = T f i := fun f i c1 c2 c3 c4 => un_o ⟨c1, c2, c3, c4⟩
  refine ⟨?_, fun i hi => ?_, by rw [hrow]; exact RW.un hI a3 ho hn hp h5 h6 h7 h8, by rw [h12, e 0 4 (by decide) (by decide) (by decide) (by decide)]; exact a4, fun i hi => ?_⟩
  · unfold CR at a1 ⊢
    rw [hf 402 (by decide) (by decide), hf 403 (by decide) (by decide), hf 404 (by decide) (by decide), hf 405 (by decide) (by decide), e 0 0 (by decide) (by decide) (by decide) (by decide), e 0 1 (by decide) (by decide) (by decide) (by decide), e 0 2 (by decide) (by decide) (by decide) (by decide), e 0 3 (by decide) (by decide) (by decide) (by decide)]
    refine ⟨a1.1, a1.2.1, a1.2.2.1, a1.2.2.2.1, fun p hp => ?_, fun i hi => ?_⟩
    · rw [e 1 p (by decide) (by decide) (by decide) (by decide), e 2 p (by decide) (by decide) (by decide) (by decide)]; exact a1.2.2.2.2.1 p hp
    · rw [e 8 i (by decide) (by decide) (by decide) (by decide)]; exact a1.2.2.2.2.2 i hi
  · rw [e 0 1 (by decide) (by decide) (by decide) (by decide)] at hi
    rw [hf 409 (by decide) (by decide), e 7 i (by decide) (by decide) (by decide) (by decide)]; exact a2 i hi
  · rw [e 0 1 (by decide) (by decide) (by decide) (by decide)] at hi
    rw [hf 411 (by decide) (by decide), e 0 5 (by decide) (by decide) (by decide) (by decide)]; exact a5 i hi
theorem o_undo (hL : LW b Γ gt M) (hC : RC A M) (hR : RR A M) (hn : AOK A n) : OD b Γ gt n yX5_undo μX5_undo [.ref 0] yX6_undo μX6_undo [.ref 300] M := by
  have hO := hn.o1
  have hr0 := hn.2.2.2.1
  have hst := hn.2.2.2.2.1
  have hd4 := hn.2.2.1
  have c1 := hC.1
  have c2 := hC.2.1
  have hg := c1.2.2.2.1
  refine ⟨2, _, by decide, x_undo hL.1 hn.1 hC.1 hn.2.1, fun z M1 h => ?_⟩
  have same : (∀ j, 300 ≤ j → M1.1 j = M.1 j) ∧ M1.2 = M.2 ∧ ∀ j, lG j → M1.1 j = M.1 j := by
    rcases h with ⟨-, -, e⟩ | ⟨-, -, -, f⟩
    · subst e; exact ⟨fun _ _ => rfl, rfl, fun _ _ => rfl⟩
    · exact ⟨f.c.1, f.c.2.1, f.c.2.2.1⟩
  have hR1 : RR A M1 := hR.fc hO same.1
  have r1 := hR1.1
  have r2 := hR1.2.1
  have hL1 : LW b Γ gt M1 := LW.m hL (same.1 400 (by decide)) (fun _ j hj => ⟨same.2.2 j hj, by rw [same.2.1]⟩)
  have hun : 0 < A.1.2.1 → unOK A.1.1 (A.1.2.2 (A.1.2.1 - 1)) ∧ HIST (A.1.2.1 - 1) (unT A.1.1 (A.1.2.2 (A.1.2.1 - 1))) A.1.2.2 := fun h0 => by
    have hH := hn.2.1
    rw [show A.1.2.1 = (A.1.2.1 - 1) + 1 by omega] at hH
    exact hH
  have row : 0 < A.1.2.1 → ∀ j, j < 9 → (M1.1 425 (9 * ((M1.1 300 24).toInt - 1).toNat + j)).toInt = A.1.2.2 (A.1.2.1 - 1) j := fun h0 j hj => by
    rw [show ((M1.1 300 24).toInt - 1).toNat = A.1.2.1 - 1 by rw [r1.2.1]; omega]
    exact r1.2.2 _ (by omega) j hj
  have b0 := hn.1.1.1
  refine ⟨0, _, by decide, r_undo hL.2.1 hn.1.1 r1.1 (by rw [r1.2.1]; omega) (fun h0 => ?_), fun z2 M2 h2 => ?_⟩
  · rw [r1.2.1] at h0
    have h0' : 0 < A.1.2.1 := by omega
    obtain ⟨u1, u2, u3, u4, -⟩ := (hun h0').1
    have e0 := row h0' 0 (by decide)
    have e3 := row h0' 3 (by decide)
    have e1 := row h0' 1 (by decide)
    have k1 := u4.1
    have k2 := u4.2.1
    rw [e0, e3, e1]
    omega
  · rw [r1.2.1] at h2
    rcases h with ⟨t1, t2, t3⟩ | ⟨t1, t2, t3, t4⟩ <;> rcases h2 with ⟨v1, v2, v3⟩ | ⟨v1, g1, v2, v3, v4⟩
    · refine ⟨i32_eq t2 v2, A, ?_, ?_, hn.up (by omega), ?_⟩
      · rw [v3]; exact (by rw [t3]; exact hC : RC A M1).code
      · rw [v3]; exact hR1.code hO
      · rw [v3]; exact hL1.frr FR.c
    · omega
    · omega
    · have h0' : 0 < A.1.2.1 := by omega
      refine ⟨i32_eq t2 (by rw [v3, v2]), ?_⟩
      obtain ⟨ho, hH⟩ := hun h0'
      have n0 : ∀ j, j ≠ 300 → j ≠ 407 → M2.1 j = M1.1 j := fun j a c => by
        rw [v4]; show (g_row _ 407 _).1 j = _
        rw [g_row_ne c, g_u_ne a, g_u_ne a]
      have k0 : ∀ q, q ≠ 1 → q ≠ 24 → M2.1 300 q = M1.1 300 q := fun q a c => by
        rw [v4]; show (g_row _ 407 _).1 300 q = _
        rw [g_row_ne (by decide), g_u_eq, if_neg c, g_u_eq, if_neg a]
      have k24 : (M2.1 300 24).toInt = ((A.1.2.1 - 1 : Nat) : Int) := by
        rw [v4]; show ((g_row _ 407 _).1 300 24).toInt = _
        rw [g_row_ne (by decide), g_u_eq, if_pos rfl, v2]; omega
      have hS2 : RSB (unS A.1) M2 := by
        refine ⟨RS.un (nI := M1.1 425 (9 * ((M1.1 300 24).toInt - 1).toNat + 2)) (pI := M1.1 425 (9 * ((M1.1 300 24).toInt - 1).toNat + 0)) (b5 := M1.1 425 (9 * ((M1.1 300 24).toInt - 1).toNat + 5)) (b6 := M1.1 425 (9 * ((M1.1 300 24).toInt - 1).toNat + 6)) (b7 := M1.1 425 (9 * ((M1.1 300 24).toInt - 1).toNat + 7)) (b8 := M1.1 425 (9 * ((M1.1 300 24).toInt - 1).toNat + 8)) hn.1 r1.1 ho (row h0' 2 (by decide)) (row h0' 0 (by decide)) (row h0' 5 (by decide)) (row h0' 6 (by decide)) (row h0' 7 (by decide)) (row h0' 8 (by decide)) n0 (k0 12 (by decide) (by decide)) ?_, k24, fun i hi j hj => ?_⟩
        · rw [v4, ← row h0' 0 (by decide), ← row h0' 1 (by decide), ← row h0' 3 (by decide)]
          show (g_row _ 407 _).1 407 = _
          funext q
          rw [g_row_at]
        · have hi' : i < A.1.2.1 - 1 := hi
          rw [n0 425 (by decide) (by decide)]; exact r1.2.2 i (by omega) j hj
      have fb := t4.c
      refine ⟨(unS A.1, A.2.1, A.2.2), (hC.up t3 ⟨by rw [fb.2.2.2.2]; exact c2.1, by rw [fb.2.2.2.2]; exact c2.2⟩ fb.2.2.2.1 (fun q _ _ => by rw [fb.2.2.2.2])).fr (fun j hj => n0 j (by unfold cN at hj; omega) (by unfold cN at hj; omega)), hR1.up hS2 ⟨by rw [n0 406 (by decide) (by decide)]; exact r2.1, by rw [n0 406 (by decide) (by decide)]; exact r2.2⟩ (fun j hj _ a _ => n0 j (by unfold rN at hj; omega) a) (fun q hq _ a => k0 q (by unfold rK at hq; omega) a), hn.set (INV.un hn.1 ho) hH ?_ (by omega) (by omega), LW.m hL1 (n0 400 (by decide) (by decide)) (fun _ j hj => ⟨n0 j (by unfold lG at hj; omega) (by unfold lG at hj; omega), by rw [v4]; rfl⟩)⟩
      show unT A.1.1 (A.1.2.2 (A.1.2.1 - 1)) 0 4 ≤ _
      rw [un_o (by decide)]
      omega
end OE
