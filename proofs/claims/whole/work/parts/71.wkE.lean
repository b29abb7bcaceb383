set_option maxHeartbeats 1200000 in
theorem r_week {Γ : gW} {M : gM} {T : gTw} (hR : g_Ref Γ) (hI : INV T) (hS : RS T M) {ord : Nat → Int} (hord : ∀ i, i < 6 → (M.1 430 i).toInt = ord i) {wh : Int32} : Ct Γ yX6_week μX6_week 15 [.ref 300, .int wh] M (g_qi (fun z M1 => (¬ (0 ≤ wh.toInt ∧ wh.toInt ≤ 2) ∧ z.toInt = 0 ∧ M1 = g_u (g_u M 300 1 0) 300 1 1) ∨ ((0 ≤ wh.toInt ∧ wh.toInt ≤ 2) ∧ wkPost T (wkT T ord) M M1 ∧ z.toInt = wkZ (wkT T ord) wh.toInt))) := by
  refine g_enter rfl rfl rfl (Nat.le_of_ble_eq_true rfl) ?_
  show G Γ _ _ _ _ 0 [some (.ref 300), some (.int wh), none] [] M
  refine g_aload_n0 dX6_week_0 rfl ?_
  refine g_iconst (v := 0) dX6_week_1 rfl rfl ?_
  refine g_put dX6_week_2 rfl fX6_128 hR.1 rfl rfl rfl ?_
  refine g_iload_n1 dX6_week_5 rfl ?_
  refine g_iconstI dX6_week_6 rfl rfl (fun w6 h6 => ?_)
  refine g_iconstI dX6_week_7 rfl rfl (fun w7 h7 => ?_)
  refine g_callSi3 dX6_week_8 rfl sX6_131 (r_isIn) (g_rm (by omega)) (Nat.le_of_ble_eq_true rfl) (fun z8 M8 e8 => ?_)
  obtain ⟨e8a, e8, f8⟩ := e8
  subst e8a
  refine g_if_neI (t := 20) dX6_week_11 (by decide) rfl (fun c11 => ?_) (fun c11 => ?_)
  · -- 11 t
    have hv : 0 ≤ wh.toInt ∧ wh.toInt ≤ 2 := by have := f8.mp (by omega); omega
    clear f8 e8
    refine g_aload_n0 dX6_week_20 rfl ?_
    refine g_iconst (v := 0) dX6_week_21 rfl rfl ?_
    refine g_put dX6_week_22 rfl fX6_324 hR.1 rfl rfl rfl ?_
    refine g_iconstI dX6_week_25 rfl rfl (fun w25 h25 => ?_)
    refine g_istore_n2 dX6_week_26 rfl rfl ?_
    have hS1 : RS T (g_u (g_u M 300 1 0) 300 33 0) := RS.moved (RS.code (x := 0) hS) rfl rfl rfl rfl rfl rfl rfl (by rw [g_u_eq, if_neg (by decide)])
    refine l_week1 (M0 := g_u (g_u M 300 1 0) 300 33 0) hR hI hS1 (fun i M5 h5 => ?_) _ _ _ rfl (by omega) (by omega) (by rw [h25]; exact ⟨fun _ _ _ _ => rfl, rfl, fun _ _ => rfl, by rw [g_u_eq, if_pos rfl]; rfl, fun p hp => absurd hp (Nat.not_lt_zero _)⟩)
    obtain ⟨hC, hW, hA, hDy, hWe⟩ := hS1
    refine g_iconstI dX6_week_106 rfl rfl (fun w106 h106 => ?_)
    refine g_istore_n2 dX6_week_107 rfl rfl ?_
    refine g_fwd (l_week2 hR (M := M5) (fun i => ?_) _ w106 rfl (by omega) (by omega)) (by rw [h106, show (0 : Int).toNat = 0 from rfl, rowI_0])
    refine g_aload_n0 dX6_week_132 rfl ?_
    refine g_iconst (v := 0) dX6_week_133 rfl rfl ?_
    refine g_put dX6_week_134 rfl fX6_340 hR.1 rfl rfl rfl ?_
    refine g_aload_n0 dX6_week_137 rfl ?_
    refine g_iconst (v := 0) dX6_week_138 rfl rfl ?_
    refine g_put dX6_week_139 rfl fX6_321 hR.1 rfl rfl rfl ?_
    refine g_aload_n0 dX6_week_142 rfl ?_
    refine g_iconst (v := 0) dX6_week_143 rfl rfl ?_
    refine g_put dX6_week_144 rfl fX6_330 hR.1 rfl rfl rfl ?_
    refine g_aload_n0 dX6_week_147 rfl ?_
    refine g_iconst (v := 0) dX6_week_148 rfl rfl ?_
    refine g_put dX6_week_149 rfl fX6_327 hR.1 rfl rfl rfl ?_
    obtain ⟨M7, hM7⟩ : ∃ M7, M7 = g_u (g_u (g_u (g_u (rowI M5 426 (M5.1 407) 30) 300 34 0) 300 35 0) 300 36 0) 300 37 0 := ⟨_, rfl⟩
    refine g_fwd (M1 := M7) ?_ hM7
    have hle := owe_le T 6
    have e7 : ∀ j, j ≠ 300 → j ≠ 426 → M7.1 j = M5.1 j := fun j a b => by rw [hM7, g_u_ne a, g_u_ne a, g_u_ne a, g_u_ne a, rowI_ne b]
    have e7b : ∀ k, k ≠ 34 → k ≠ 35 → k ≠ 36 → k ≠ 37 → M7.1 300 k = M5.1 300 k := fun k a b c d => by rw [hM7, g_u_eq, if_neg d, g_u_eq, if_neg c, g_u_eq, if_neg b, g_u_eq, if_neg a, rowI_ne (by decide)]
    have e430 : ∀ i, i < 6 → (M7.1 430 i).toInt = ord i := fun i hi => by rw [e7 430 (by decide) (by decide), h5.1 430 (by decide) (by decide) (by decide), g_u_ne (by decide), g_u_ne (by decide)]; exact hord i hi
    have hWk0 : WKR (0, 0, ord, 0) M7 := by
      refine ⟨⟨⟨Int.le_refl _, by show (0 : Int) ≤ 20000; omega⟩, ⟨Int.le_refl _, by show (0 : Int) ≤ 6; omega⟩, Or.inl rfl⟩, ?_, ?_, ?_, ?_, e430⟩
      · rw [hM7, g_u_eq, if_neg (by decide), g_u_eq, if_neg (by decide), g_u_eq, if_neg (by decide), g_u_eq, if_pos rfl]; rfl
      · rw [hM7, g_u_eq, if_neg (by decide), g_u_eq, if_neg (by decide), g_u_eq, if_pos rfl]; rfl
      · rw [hM7, g_u_eq, if_neg (by decide), g_u_eq, if_pos rfl]; rfl
      · rw [hM7, g_u_eq, if_pos rfl]; rfl
    have hA8 : RW T (fun j => M7.1 426 (30 * 0 + j)) := RW.ext hI.1 hA (fun j hj => by
      show M7.1 426 (30 * 0 + j) = _
      rw [show 30 * 0 + j = j by omega, hM7, g_u_ne (by decide), g_u_ne (by decide), g_u_ne (by decide), g_u_ne (by decide), rowI_at, if_pos hj, h5.1 407 (by decide) (by decide) (by decide)])
    have hK : WKC T (owe T 6) M7 := by
      refine ⟨?_, ?_, ?_, ?_⟩
      · have h := hC
        unfold CR at h ⊢
        rw [e7 402 (by decide) (by decide), e7 403 (by decide) (by decide), e7 404 (by decide) (by decide), e7 405 (by decide) (by decide), h5.1 402 (by decide) (by decide) (by decide), h5.1 403 (by decide) (by decide) (by decide), h5.1 404 (by decide) (by decide) (by decide), h5.1 405 (by decide) (by decide) (by decide)]
        exact h
      · have h := hW
        unfold WR at h ⊢
        rw [e7 409 (by decide) (by decide), h5.1 409 (by decide) (by decide) (by decide)]
        exact h
      · rw [e7b 33 (by decide) (by decide) (by decide) (by decide)]; exact h5.2.2.2.1
      · rw [e7 428 (by decide) (by decide), e7 429 (by decide) (by decide)]; exact h5.2.2.2.2
    refine g_aload_n0 dX6_week_152 rfl ?_
    refine g_iconstI dX6_week_153 rfl rfl (fun w153 h153 => ?_)
    refine g_iconstI dX6_week_154 rfl rfl (fun w154 h154 => ?_)
    refine g_callVv2 dX6_week_155 rfl vX6_343 hR.1 rfl (r_weekOn hR (owe T 6) (owe T 6) T 0 0 _ _ (0, 0, ord, 0) _ (by omega) hle (by decide) h153 h154 hI hK hA8 hWk0 rfl) (g_rm (by omega)) (Nat.le_of_ble_eq_true rfl) (fun M155 e155 => ?_)
    obtain ⟨hWk, hfr⟩ := e155
    have hx : ∀ k, k ≠ 33 → k ≠ 34 → k ≠ 35 → k ≠ 36 → k ≠ 37 → M155.1 300 k = (g_u (g_u M 300 1 0) 300 33 0).1 300 k := fun k a b c d e => by rw [hfr.2.2.1 k b c d e, e7b k b c d e, h5.2.2.1 k a]
    refine l_weekF hR hv hWk (fun j a b c d e f g => ?_) ?_ ?_ (fun k hk => ?_) ?_ ?_
    · rw [hfr.1 j a b c f, e7 j a b, h5.1 j a d e, g_u_ne a, g_u_ne a]
    · rw [hfr.1 431 (by decide) (by decide) (by decide) (by decide), e7 431 (by decide) (by decide), h5.1 431 (by decide) (by decide) (by decide), g_u_ne (by decide), g_u_ne (by decide)]
    · rw [hfr.2.1, hM7]; exact h5.2.1
    · rw [hx k (by omega) (by omega) (by omega) (by omega) (by omega), g_u_eq, if_neg (by omega)]
    · rw [hx 32 (by decide) (by decide) (by decide) (by decide) (by decide), g_u_eq, if_neg (by decide), g_u_eq, if_neg (by decide)]
    · rw [hfr.2.2.1 33 (by decide) (by decide) (by decide) (by decide), e7b 33 (by decide) (by decide) (by decide) (by decide)]; exact h5.2.2.2.1
  · -- 11 f
    have hv : ¬ (0 ≤ wh.toInt ∧ wh.toInt ≤ 2) := fun h => by have := f8.mpr (by omega); omega
    clear f8 e8
    refine g_aload_n0 dX6_week_14 rfl ?_
    refine g_iconst (v := 1) dX6_week_15 rfl rfl ?_
    refine g_callVi1 dX6_week_16 rfl vX6_243 hR.1 rfl (r_fail hR) (g_rm (by omega)) (Nat.le_of_ble_eq_true rfl) (fun z16 M16 e16 => ?_)
    obtain ⟨e16a, e16⟩ := e16
    subst e16a
    refine g_iret dX6_week_19 rfl ?_
    exact ⟨_, rfl, Or.inl ⟨hv, e16, rfl⟩⟩
