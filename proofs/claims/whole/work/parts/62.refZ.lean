theorem RW.ext {T : gTw} {r r' : Nat → Int32} (hO : TOK T) (h : RW T r) (e : ∀ j, j < 30 → r' j = r j) : RW T r' := by
  have hp := hO.1
  have ht := hO.2.1
  refine ⟨fun p hq => ?_, fun i hi => by rw [e i (by omega)]; exact h.2 i hi⟩
  rw [e _ (by omega), e _ (by omega), e _ (by omega)]
  obtain ⟨a, b, c, d⟩ := h.1 p hq
  refine ⟨a, b, c, fun i => ?_⟩
  rw [d i]
  by_cases hi : (i : Int) < T 0 1
  · rw [e i (by omega)]
  · exact ⟨fun h => absurd h.1 hi, fun h => absurd h.1 hi⟩
theorem g_fwd {Γ : gW} {μ : gY} {R : Room} {kn : Nat × Nat} {Z : gZ} {pc : Nat} {lv : List (Option Value)} {st : List Value} {M M1 : gM} (k : G Γ μ R kn Z pc lv st M1) (h : M1 = M) : G Γ μ R kn Z pc lv st M := h ▸ k
set_option maxHeartbeats 1200000 in
theorem l_still1 {Γ : gW} {M : gM} (hR : g_Ref Γ) {y2 : Option Value} {Q : Option Value → gM → Prop} (hk : ∀ i : Int32, G Γ μX6_still (g_R 6) (0, 0) (g_Z Γ Q) 42 [some (.ref 300), some (.int i), y2] [] (rowI M 447 (M.1 409) (12))) : ∀ (n9 : Nat) (i : Int32), 12 - i.toInt.toNat = n9 → 0 ≤ i.toInt → i.toInt.toNat ≤ 12 → G Γ μX6_still (g_R 6) (0, 0) (g_Z Γ Q) 18 [some (.ref 300), some (.int i), y2] [] (rowI M 447 (M.1 409) i.toInt.toNat) := by
  intro n9
  induction n9 using Nat.strongRecOn with
  | ind n9 ih =>
    intro i hn hi0 hi1
    refine g_iload_n1 dX6_still_18 rfl ?_
    refine g_bipushI dX6_still_19 rfl rfl (fun w19 h19 => ?_)
    refine g_icmp_geI (t := 42) dX6_still_21 (by decide) rfl (fun c21 => ?_) (fun c21 => ?_)
    · -- 21 t
      have h := hk i
      rw [show 12 = i.toInt.toNat by omega] at h
      exact h
    · -- 21 f
      refine g_aload_n0 dX6_still_24 rfl ?_
      refine g_getr dX6_still_25 rfl fX6_109 hR.1 rfl ?_
      refine g_iload_n1 dX6_still_28 rfl ?_
      refine g_aload_n0 dX6_still_29 rfl ?_
      refine g_getr dX6_still_30 rfl fX6_47 hR.1 rfl ?_
      refine g_iload_n1 dX6_still_33 rfl ?_
      refine g_ialdI dX6_still_34 rfl (rf_weight hR) ⟨by omega, by omega⟩ ?_
      rw [rowI_ne (show (409 : Nat) ≠ 447 by decide)]
      refine g_iastI dX6_still_35 rfl (rf_weightNow hR) ⟨by omega, by omega⟩ ?_
      refine g_iincI1 dX6_still_36 rfl rfl rfl ⟨by omega, by omega⟩ (fun w36 h36 => ?_)
      refine g_goto (t := 18) dX6_still_39 (by decide) ?_
      have h := ih _ (by omega) w36 rfl (by omega) (by omega)
      rw [h36, show (i.toInt + 1).toNat = i.toInt.toNat + 1 by omega, ← rowI_step (x := M.1 409 i.toInt.toNat) rfl] at h
      exact h
set_option maxHeartbeats 1200000 in
theorem l_still2 {Γ : gW} {M : gM} (hR : g_Ref Γ) {y1 : Int32} {Q : Option Value → gM → Prop} (hk : ∀ i : Int32, G Γ μX6_still (g_R 6) (0, 0) (g_Z Γ Q) 73 [some (.ref 300), some (.int y1), some (.int i)] [] (rowI M 409 (M.1 447) (12))) : ∀ (n9 : Nat) (i : Int32), 12 - i.toInt.toNat = n9 → 0 ≤ i.toInt → i.toInt.toNat ≤ 12 → G Γ μX6_still (g_R 6) (0, 0) (g_Z Γ Q) 49 [some (.ref 300), some (.int y1), some (.int i)] [] (rowI M 409 (M.1 447) i.toInt.toNat) := by
  intro n9
  induction n9 using Nat.strongRecOn with
  | ind n9 ih =>
    intro i hn hi0 hi1
    refine g_iload_n2 dX6_still_49 rfl ?_
    refine g_bipushI dX6_still_50 rfl rfl (fun w50 h50 => ?_)
    refine g_icmp_geI (t := 73) dX6_still_52 (by decide) rfl (fun c52 => ?_) (fun c52 => ?_)
    · -- 52 t
      have h := hk i
      rw [show 12 = i.toInt.toNat by omega] at h
      exact h
    · -- 52 f
      refine g_aload_n0 dX6_still_55 rfl ?_
      refine g_getr dX6_still_56 rfl fX6_47 hR.1 rfl ?_
      refine g_iload_n2 dX6_still_59 rfl ?_
      refine g_aload_n0 dX6_still_60 rfl ?_
      refine g_getr dX6_still_61 rfl fX6_109 hR.1 rfl ?_
      refine g_iload_n2 dX6_still_64 rfl ?_
      refine g_ialdI dX6_still_65 rfl (rf_weightNow hR) ⟨by omega, by omega⟩ ?_
      rw [rowI_ne (show (447 : Nat) ≠ 409 by decide)]
      refine g_iastI dX6_still_66 rfl (rf_weight hR) ⟨by omega, by omega⟩ ?_
      refine g_iincI2 dX6_still_67 rfl rfl rfl ⟨by omega, by omega⟩ (fun w67 h67 => ?_)
      refine g_goto (t := 49) dX6_still_70 (by decide) ?_
      have h := ih _ (by omega) w67 rfl (by omega) (by omega)
      rw [h67, show (i.toInt + 1).toNat = i.toInt.toNat + 1 by omega, ← rowI_step (x := M.1 447 i.toInt.toNat) rfl] at h
      exact h
set_option maxHeartbeats 1200000 in
theorem r_still {Γ : gW} {M : gM} {T : gTw} (hR : g_Ref Γ) (hI : INV T) (hday : T 0 4 + 101 ≤ 100000) (hS : RS T M)  : Ct Γ yX6_still μX6_still 6 [.ref 300] M (g_qi (fun z M1 => stillZ T z.toInt ∧ (∀ j, j ≠ 442 → j ≠ 447 → j ≠ 409 → M1.1 j = (g_u M 300 1 0).1 j) ∧ M1.2 = M.2 ∧ ∀ i, i < 12 → M1.1 409 i = M.1 409 i)) := by
  refine g_enter rfl rfl rfl (Nat.le_of_ble_eq_true rfl) ?_
  show G Γ _ _ _ _ 0 [some (.ref 300), none, none] [] M
  refine g_aload_n0 dX6_still_0 rfl ?_
  refine g_iconst (v := 0) dX6_still_1 rfl rfl ?_
  refine g_put dX6_still_2 rfl fX6_128 hR.1 rfl rfl rfl ?_
  refine g_aload_n0 dX6_still_5 rfl ?_
  refine g_getr dX6_still_6 rfl fX6_41 hR.1 rfl ?_
  refine g_aload_n0 dX6_still_9 rfl ?_
  refine g_getr dX6_still_10 rfl fX6_100 hR.1 rfl ?_
  refine g_callSv2 dX6_still_13 rfl sX6_249 (r_copy (rf_now hR) (rf_row hR) (by decide)) (g_rm (by omega)) (Nat.le_of_ble_eq_true rfl) (fun M13 e13 => ?_)
  subst e13
  refine g_iconstI dX6_still_16 rfl rfl (fun w16 h16 => ?_)
  refine g_istore_n1 dX6_still_17 rfl rfl ?_
  refine g_fwd (l_still1 hR (M := rowI (g_u M 300 1 0) 442 ((g_u M 300 1 0).1 407) 30) (y2 := none) (fun i => ?_) _ w16 rfl (by omega) (by omega)) (by rw [h16, show (0 : Int).toNat = 0 from rfl, rowI_0])
  obtain ⟨hC, hW, hA, hDy, hWe⟩ : RS T (rowI (rowI (g_u M 300 1 0) 442 ((g_u M 300 1 0).1 407) 30) 447 ((rowI (g_u M 300 1 0) 442 ((g_u M 300 1 0).1 407) 30).1 409) 12) := RS.moved (RS.code (x := 0) hS) rfl rfl rfl rfl rfl rfl rfl rfl
  replace hA : RW T ((rowI (rowI (g_u M 300 1 0) 442 ((g_u M 300 1 0).1 407) 30) 447 ((rowI (g_u M 300 1 0) 442 ((g_u M 300 1 0).1 407) 30).1 409) 12).1 442) := by
    refine RW.ext hI.1 hA (fun j hj => ?_)
    rw [rowI_ne (by decide), rowI_at, if_pos hj]; rfl
  refine g_aload_n0 dX6_still_42 rfl ?_
  refine g_callVi0 dX6_still_43 rfl vX6_390 hR.1 rfl (r_stillFrom hR hI hday hDy hC hWe hW hA) (g_rm (by omega)) (Nat.le_of_ble_eq_true rfl) (fun z43 M43 e43 => ?_)
  obtain ⟨hfr, hz⟩ := e43
  refine g_istore_n1 dX6_still_46 rfl rfl ?_
  refine g_iconstI dX6_still_47 rfl rfl (fun w47 h47 => ?_)
  refine g_istore_n2 dX6_still_48 rfl rfl ?_
  refine g_fwd (l_still2 hR (M := M43) (y1 := z43) (fun i => ?_) _ w47 rfl (by omega) (by omega)) (by rw [h47, show (0 : Int).toNat = 0 from rfl, rowI_0])
  refine g_iload_n1 dX6_still_73 rfl ?_
  refine g_iret dX6_still_74 rfl ?_
  exact ⟨_, rfl, hz, fun j a b c => by rw [rowI_ne c, hfr.1 j a c, rowI_ne b, rowI_ne a], by show M43.2 = _; rw [hfr.2]; rfl, fun i hi => by rw [rowI_at, if_pos hi, hfr.1 447 (by decide) (by decide), rowI_at, if_pos hi, rowI_ne (by decide)]; rfl⟩
