set_option maxHeartbeats 1200000 in
theorem r_choice {Γ : gW} {M : gM} {T : gTw} (hR : g_Ref Γ) (hO : TOK T) (hS : RS T M) {p w : Int32}  : Ct Γ yX6_choice μX6_choice 4 [.ref 300, .int p, .int w] M (g_qi (fun z M1 => (¬ (0 ≤ p.toInt ∧ p.toInt < T 0 0 ∧ 0 ≤ w.toInt ∧ w.toInt ≤ 2) ∧ z.toInt = 0 ∧ M1 = g_u (g_u M 300 1 0) 300 1 1) ∨ ((0 ≤ p.toInt ∧ p.toInt < T 0 0 ∧ 0 ≤ w.toInt ∧ w.toInt ≤ 2) ∧ M1 = g_u M 300 1 0 ∧ ((chosenT T p.toInt.toNat (-1) ∧ z.toInt = -1) ∨ ∃ n : Nat, chosenT T p.toInt.toNat (n : Int) ∧ z.toInt = if w.toInt = 0 then (n : Int) else if w.toInt = 1 then sandT T p.toInt.toNat n else takerT T p.toInt.toNat)))) := by
  have hS0 := RS.code (x := 0) hS
  obtain ⟨hC, hW, hA, hDy, hWe⟩ := id hS0
  obtain ⟨o_pe, o_th, o_la, o_wi, o_da, o_we, o_p, o_i⟩ := id hO
  obtain ⟨r_0, r_1, r_2, r_3, r_p, r_i⟩ := id hC
  have ep : ((2 ^ (T 0 1).toNat : Nat) : Int) = (2 : Int) ^ (T 0 1).toNat := by simp
  have hp12 : 2 ^ (T 0 1).toNat ≤ 2 ^ 12 := Nat.pow_le_pow_right (by decide) (by omega)
  have hp12e : (2 : Nat) ^ 12 = 4096 := rfl
  refine g_enter rfl rfl rfl (Nat.le_of_ble_eq_true rfl) ?_
  show G Γ _ _ _ _ 0 [some (.ref 300), some (.int p), some (.int w), none] [] M
  refine g_aload_n0 dX6_choice_0 rfl ?_
  refine g_iconst (v := 0) dX6_choice_1 rfl rfl ?_
  refine g_put dX6_choice_2 rfl fX6_128 hR.1 rfl rfl rfl ?_
  refine g_aload_n0 dX6_choice_5 rfl ?_
  refine g_iload_n1 dX6_choice_6 rfl ?_
  refine g_callVi1 dX6_choice_7 rfl vX6_263 hR.1 rfl (r_isPerson hR hO hC) (g_rm (by omega)) (Nat.le_of_ble_eq_true rfl) (fun z7 M7 e7 => ?_)
  obtain ⟨e7a, e7, f7⟩ := e7
  subst e7a
  refine g_if_eqI (t := 22) dX6_choice_10 (by decide) rfl (fun c10 => ?_) (fun c10 => ?_)
  · -- 10 t
    have hp1 : ¬ (0 ≤ p.toInt ∧ p.toInt < T 0 0) := fun h => by have := f7.mpr h; omega
    clear f7 e7
    refine g_aload_n0 dX6_choice_22 rfl ?_
    refine g_iconst (v := 1) dX6_choice_23 rfl rfl ?_
    refine g_callVi1 dX6_choice_24 rfl vX6_243 hR.1 rfl (r_fail hR) (g_rm (by omega)) (Nat.le_of_ble_eq_true rfl) (fun z24 M24 e24 => ?_)
    obtain ⟨e24a, e24⟩ := e24
    subst e24a
    refine g_iret dX6_choice_27 rfl ?_
    exact ⟨_, rfl, Or.inl ⟨by omega, e24, rfl⟩⟩
  · -- 10 f
    have hp1 := f7.mp (by omega)
    clear f7 e7
    refine g_iload_n2 dX6_choice_13 rfl ?_
    refine g_iconstI dX6_choice_14 rfl rfl (fun w14 h14 => ?_)
    refine g_iconstI dX6_choice_15 rfl rfl (fun w15 h15 => ?_)
    refine g_callSi3 dX6_choice_16 rfl sX6_131 (r_isIn) (g_rm (by omega)) (Nat.le_of_ble_eq_true rfl) (fun z16 M16 e16 => ?_)
    obtain ⟨e16a, e16, f16⟩ := e16
    subst e16a
    refine g_if_neI (t := 28) dX6_choice_19 (by decide) rfl (fun c19 => ?_) (fun c19 => ?_)
    · -- 19 t
      have hp2 : 0 ≤ w.toInt ∧ w.toInt ≤ 2 := by have := f16.mp (by omega); omega
      clear f16 e16
      have hp : 0 ≤ p.toInt ∧ p.toInt < T 0 0 := by omega
      have hw2 : 0 ≤ w.toInt ∧ w.toInt ≤ 2 := by omega
      obtain ⟨a_s, a_o, a_t, a_h⟩ := hA.1 p.toInt.toNat (by omega)
      have hDy2 : (M.1 300 12).toInt = T 0 4 := by rw [g_u_eq, if_neg (by decide)] at hDy; exact hDy
      refine g_aload_n0 dX6_choice_28 rfl ?_
      refine g_aload_n0 dX6_choice_29 rfl ?_
      refine g_getr dX6_choice_30 rfl fX6_41 hR.1 rfl ?_
      refine g_iload_n1 dX6_choice_33 rfl ?_
      refine g_aload_n0 dX6_choice_34 rfl ?_
      refine g_geti dX6_choice_35 rfl fX6_253 hR.1 rfl ?_
      rw [g_u_eq, if_neg (show ¬ (12 : Nat) = 1 by decide)]
      refine g_callVi3 dX6_choice_38 rfl vX6_311 hR.1 rfl (r_choiceOf hR hO hC hW (rf_now hR) hA hp hDy2) (g_rm (by omega)) (Nat.le_of_ble_eq_true rfl) (fun z38 M38 e38 => ?_)
      obtain ⟨e38a, e38⟩ := e38
      subst e38a
      refine g_istore_n3 dX6_choice_41 rfl rfl ?_
      refine g_iload_n3 dX6_choice_42 rfl ?_
      refine g_iconstI dX6_choice_43 rfl rfl (fun w43 h43 => ?_)
      refine g_icmp_neI (t := 49) dX6_choice_44 (by decide) rfl (fun c44 => ?_) (fun c44 => ?_)
      · -- 44 t
        obtain ⟨n, en, hsl, -⟩ := e38.resolve_left (fun h => by omega)
        have hch : chosenT T p.toInt.toNat (n : Int) := by rw [← en]; exact e38
        have hn2 : hasT T p.toInt.toNat < 2 ^ (T 0 1).toNat := by rw [← RW.has hA (p := p.toInt.toNat) (by omega)]; exact gat_lt _ _
        have hn3 := sub_le hsl.1.2.1
        have enn : z38.toInt.toNat = n := by omega
        refine g_iload_n2 dX6_choice_49 rfl ?_
        refine g_if_neI (t := 57) dX6_choice_50 (by decide) rfl (fun c50 => ?_) (fun c50 => ?_)
        · -- 50 t
          refine g_iload_n2 dX6_choice_57 rfl ?_
          refine g_iconstI dX6_choice_58 rfl rfl (fun w58 h58 => ?_)
          refine g_icmp_neI (t := 84) dX6_choice_59 (by decide) rfl (fun c59 => ?_) (fun c59 => ?_)
          · -- 59 t
            refine g_aload_n0 dX6_choice_84 rfl ?_
            refine g_aload_n0 dX6_choice_85 rfl ?_
            refine g_getr dX6_choice_86 rfl fX6_41 hR.1 rfl ?_
            refine g_iload_n1 dX6_choice_89 rfl ?_
            refine g_aload_n0 dX6_choice_90 rfl ?_
            refine g_getr dX6_choice_91 rfl fX6_41 hR.1 rfl ?_
            refine g_bipushI dX6_choice_94 rfl rfl (fun w94 h94 => ?_)
            refine g_iload_n1 dX6_choice_96 rfl ?_
            refine g_iaddI dX6_choice_97 rfl ⟨by omega, by omega⟩ (fun w97 h97 => ?_)
            have q97 : w97.toInt.toNat = 24 + p.toInt.toNat := by omega
            refine g_ialdI dX6_choice_98 rfl (rf_now hR) ⟨by omega, by omega⟩ ?_
            rw [g_u_ne (show 407 ≠ 300 by omega)]
            rw [q97]
            rw [g_u_ne (show 407 ≠ 300 by decide)] at a_t
            refine g_callVi3 dX6_choice_99 rfl vX6_315 hR.1 rfl (r_whomOf hR hO hC (rf_now hR) hA hp a_t) (g_rm (by omega)) (Nat.le_of_ble_eq_true rfl) (fun z99 M99 e99 => ?_)
            obtain ⟨e99a, e99⟩ := e99
            subst e99a
            refine g_iret dX6_choice_102 rfl ?_
            refine ⟨_, rfl, Or.inr ⟨by omega, rfl, Or.inr ⟨n, hch, ?_⟩⟩⟩
            first
              | (rw [if_pos (by omega)]; exact en)
              | (rw [if_neg (by omega), if_pos (by omega)]; exact e78)
              | (rw [if_neg (by omega), if_neg (by omega)]; exact e99)
          · -- 59 f
            refine g_aload_n0 dX6_choice_62 rfl ?_
            refine g_aload_n0 dX6_choice_63 rfl ?_
            refine g_getr dX6_choice_64 rfl fX6_41 hR.1 rfl ?_
            refine g_iload_n1 dX6_choice_67 rfl ?_
            refine g_iload_n3 dX6_choice_68 rfl ?_
            refine g_aload_n0 dX6_choice_69 rfl ?_
            refine g_getr dX6_choice_70 rfl fX6_41 hR.1 rfl ?_
            refine g_bipushI dX6_choice_73 rfl rfl (fun w73 h73 => ?_)
            refine g_iload_n1 dX6_choice_75 rfl ?_
            refine g_iaddI dX6_choice_76 rfl ⟨by omega, by omega⟩ (fun w76 h76 => ?_)
            have q76 : w76.toInt.toNat = 18 + p.toInt.toNat := by omega
            refine g_ialdI dX6_choice_77 rfl (rf_now hR) ⟨by omega, by omega⟩ ?_
            rw [g_u_ne (show 407 ≠ 300 by omega)]
            rw [q76]
            rw [g_u_ne (show 407 ≠ 300 by decide)] at a_o
            refine g_callVi4 dX6_choice_78 rfl vX6_297 hR.1 rfl (r_sandFor hR hO hC hW (rf_now hR) hA hp ⟨by omega, by omega⟩ a_o) (g_rm (by omega)) (Nat.le_of_ble_eq_true rfl) (fun z78 M78 e78 => ?_)
            obtain ⟨e78a, e78⟩ := e78
            subst e78a
            rw [enn] at e78
            have e78 : z78.toInt = sandT T p.toInt.toNat n := e78.elim (fun h => h.2) (fun h => absurd hsl.1 h.1)
            refine g_goto (t := 102) dX6_choice_81 (by decide) ?_
            refine g_iret dX6_choice_102 rfl ?_
            refine ⟨_, rfl, Or.inr ⟨by omega, rfl, Or.inr ⟨n, hch, ?_⟩⟩⟩
            first
              | (rw [if_pos (by omega)]; exact en)
              | (rw [if_neg (by omega), if_pos (by omega)]; exact e78)
              | (rw [if_neg (by omega), if_neg (by omega)]; exact e99)
        · -- 50 f
          refine g_iload_n3 dX6_choice_53 rfl ?_
          refine g_goto (t := 102) dX6_choice_54 (by decide) ?_
          refine g_iret dX6_choice_102 rfl ?_
          refine ⟨_, rfl, Or.inr ⟨by omega, rfl, Or.inr ⟨n, hch, ?_⟩⟩⟩
          first
            | (rw [if_pos (by omega)]; exact en)
            | (rw [if_neg (by omega), if_pos (by omega)]; exact e78)
            | (rw [if_neg (by omega), if_neg (by omega)]; exact e99)
      · -- 44 f
        refine g_iconstI dX6_choice_47 rfl rfl (fun w47 h47 => ?_)
        refine g_iret dX6_choice_48 rfl ?_
        exact ⟨_, rfl, Or.inr ⟨by omega, rfl, Or.inl ⟨by rw [← show z38.toInt = -1 by omega]; exact e38, by omega⟩⟩⟩
    · -- 19 f
      have hp2 : ¬ (0 ≤ w.toInt ∧ w.toInt ≤ 2) := fun h => by have := f16.mpr (by omega); omega
      clear f16 e16
      refine g_aload_n0 dX6_choice_22 rfl ?_
      refine g_iconst (v := 1) dX6_choice_23 rfl rfl ?_
      refine g_callVi1 dX6_choice_24 rfl vX6_243 hR.1 rfl (r_fail hR) (g_rm (by omega)) (Nat.le_of_ble_eq_true rfl) (fun z24 M24 e24 => ?_)
      obtain ⟨e24a, e24⟩ := e24
      subst e24a
      refine g_iret dX6_choice_27 rfl ?_
      exact ⟨_, rfl, Or.inl ⟨by omega, e24, rfl⟩⟩
