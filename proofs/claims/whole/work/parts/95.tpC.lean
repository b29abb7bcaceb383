set_option maxHeartbeats 1200000 in
theorem c_takeNumber {Γ : gW} {M : gM} {t : Nat → Int} {n e : Nat} (hA : g_Tape Γ) (hH : HTc t n M) (he : e ≤ n) (hK : TKc t n e M) {a b : Int32} : Ct Γ yX2_takeNumber μX2_takeNumber 3 [.ref 230, .int a, .int b] M (g_qi (fun z M1 => (∃ q, pNum t n e a.toInt b.toInt = .inl q ∧ z.toInt = 0 ∧ ERc q M1 ∧ frK M M1) ∨ (∃ v e1, pNum t n e a.toInt b.toInt = .inr (v, e1) ∧ z.toInt = 1 ∧ (M1.1 230 12).toInt = v ∧ TKc t n e1 M1 ∧ e1 ≤ n ∧ frK M M1))) := by
  have x7 := hH.2.1
  obtain ⟨d1, d2, d3, d4⟩ := id hK
  have d8 := tk_rng (t := t) he
  refine g_enter rfl rfl rfl (Nat.le_of_ble_eq_true rfl) ?_
  show G Γ _ _ _ _ 0 [some (.ref 230), some (.int a), some (.int b)] [] M
  refine g_aload_n0 dX2_takeNumber_0 rfl ?_
  refine g_geti dX2_takeNumber_1 rfl fX2_39 hA.1 rfl ?_
  refine g_iconstI dX2_takeNumber_4 rfl rfl (fun w4 h4 => ?_)
  refine g_icmp_eqI (t := 14) dX2_takeNumber_5 (by decide) rfl (fun c5 => ?_) (fun c5 => ?_)
  · -- 5 t
    have hk2 : tkK t n e = 2 := by omega
    obtain ⟨d5, d6⟩ := d4 hk2
    refine g_aload_n0 dX2_takeNumber_14 rfl ?_
    refine g_geti dX2_takeNumber_15 rfl fX2_48 hA.1 rfl ?_
    refine g_iconstI dX2_takeNumber_18 rfl rfl (fun w18 h18 => ?_)
    refine g_icmp_gtI (t := 38) dX2_takeNumber_19 (by decide) rfl (fun c19 => ?_) (fun c19 => ?_)
    · -- 19 t
      have hp : pNum t n e a.toInt b.toInt = .inl (2, (tkB t n e : Int)) := by rw [pNum, if_neg (by omega), if_pos (by omega)]
      refine g_aload_n0 dX2_takeNumber_38 rfl ?_
      refine g_iconstI dX2_takeNumber_39 rfl rfl (fun w39 h39 => ?_)
      refine g_callVi1 dX2_takeNumber_40 rfl vX2_108 hA.1 rfl (c_refuse hA) (g_rm (by omega)) (Nat.le_of_ble_eq_true rfl) (fun z40 M40 e40 => ?_)
      refine g_zretI dX2_takeNumber_43 rfl (by have := e40.1; omega) ?_
      exact ⟨_, rfl, Or.inl ⟨_, hp, e40.1, by rw [e40.2]; exact ⟨by rw [g_u_eq, if_pos rfl]; exact h39, by rw [g_u_eq, if_neg (by decide)]; exact d3⟩, by rw [e40.2]; exact frK.u (by decide)⟩⟩
    · -- 19 f
      have d10 := d6 (by omega)
      refine g_aload_n0 dX2_takeNumber_22 rfl ?_
      refine g_geti dX2_takeNumber_23 rfl fX2_51 hA.1 rfl ?_
      refine g_iload_n1 dX2_takeNumber_26 rfl ?_
      refine g_icmp_ltI (t := 38) dX2_takeNumber_27 (by decide) rfl (fun c27 => ?_) (fun c27 => ?_)
      · -- 27 t
        have hp : pNum t n e a.toInt b.toInt = .inl (2, (tkB t n e : Int)) := by rw [pNum, if_neg (by omega), if_pos (by omega)]
        refine g_aload_n0 dX2_takeNumber_38 rfl ?_
        refine g_iconstI dX2_takeNumber_39 rfl rfl (fun w39 h39 => ?_)
        refine g_callVi1 dX2_takeNumber_40 rfl vX2_108 hA.1 rfl (c_refuse hA) (g_rm (by omega)) (Nat.le_of_ble_eq_true rfl) (fun z40 M40 e40 => ?_)
        refine g_zretI dX2_takeNumber_43 rfl (by have := e40.1; omega) ?_
        exact ⟨_, rfl, Or.inl ⟨_, hp, e40.1, by rw [e40.2]; exact ⟨by rw [g_u_eq, if_pos rfl]; exact h39, by rw [g_u_eq, if_neg (by decide)]; exact d3⟩, by rw [e40.2]; exact frK.u (by decide)⟩⟩
      · -- 27 f
        refine g_aload_n0 dX2_takeNumber_30 rfl ?_
        refine g_geti dX2_takeNumber_31 rfl fX2_51 hA.1 rfl ?_
        refine g_iload_n2 dX2_takeNumber_34 rfl ?_
        refine g_icmp_leI (t := 44) dX2_takeNumber_35 (by decide) rfl (fun c35 => ?_) (fun c35 => ?_)
        · -- 35 t
          have hp : pNum t n e a.toInt b.toInt = .inr (tkV t n e, tkE t n e) := by rw [pNum, if_neg (by omega), if_neg (by omega)]
          refine g_aload_n0 dX2_takeNumber_44 rfl ?_
          refine g_aload_n0 dX2_takeNumber_45 rfl ?_
          refine g_geti dX2_takeNumber_46 rfl fX2_51 hA.1 rfl ?_
          refine g_put dX2_takeNumber_49 rfl fX2_54 hA.1 rfl rfl rfl ?_
          obtain ⟨M2, hM2⟩ : ∃ M2, M2 = g_u M 230 12 (M.1 230 11) := ⟨_, rfl⟩
          refine g_fwd (M1 := M2) ?_ hM2
          have hf2 : frK M M2 := by rw [hM2]; exact frK.u (by decide)
          have hv2 : (M2.1 230 12).toInt = tkV t n e := by rw [hM2, g_u_eq, if_pos rfl]; exact d10
          have hen : (M2.1 230 9).toInt = (tkE t n e : Int) := by rw [hM2, g_u_eq, if_neg (by decide)]; exact d1
          clear hM2
          refine g_aload_n0 dX2_takeNumber_52 rfl ?_
          refine g_callVv0 dX2_takeNumber_53 rfl vX2_66 hA.1 rfl (c_step hA (hH.k hf2) d8.2.2.1 hen) (g_rm (by omega)) (Nat.le_of_ble_eq_true rfl) (fun M53 e53 => ?_)
          refine g_iconstI dX2_takeNumber_56 rfl rfl (fun w56 h56 => ?_)
          refine g_zretI dX2_takeNumber_57 rfl (by omega) ?_
          exact ⟨_, rfl, Or.inr ⟨_, _, hp, h56, by rw [e53.2.2]; exact hv2, e53.2.1, d8.2.2.1, frK.tr hf2 e53.1⟩⟩
        · -- 35 f
          have hp : pNum t n e a.toInt b.toInt = .inl (2, (tkB t n e : Int)) := by rw [pNum, if_neg (by omega), if_pos (by omega)]
          refine g_aload_n0 dX2_takeNumber_38 rfl ?_
          refine g_iconstI dX2_takeNumber_39 rfl rfl (fun w39 h39 => ?_)
          refine g_callVi1 dX2_takeNumber_40 rfl vX2_108 hA.1 rfl (c_refuse hA) (g_rm (by omega)) (Nat.le_of_ble_eq_true rfl) (fun z40 M40 e40 => ?_)
          refine g_zretI dX2_takeNumber_43 rfl (by have := e40.1; omega) ?_
          exact ⟨_, rfl, Or.inl ⟨_, hp, e40.1, by rw [e40.2]; exact ⟨by rw [g_u_eq, if_pos rfl]; exact h39, by rw [g_u_eq, if_neg (by decide)]; exact d3⟩, by rw [e40.2]; exact frK.u (by decide)⟩⟩
  · -- 5 f
    have hp : pNum t n e a.toInt b.toInt = .inl (1, (tkB t n e : Int)) := by rw [pNum, if_pos (by omega)]
    refine g_aload_n0 dX2_takeNumber_8 rfl ?_
    refine g_iconstI dX2_takeNumber_9 rfl rfl (fun w9 h9 => ?_)
    refine g_callVi1 dX2_takeNumber_10 rfl vX2_108 hA.1 rfl (c_refuse hA) (g_rm (by omega)) (Nat.le_of_ble_eq_true rfl) (fun z10 M10 e10 => ?_)
    refine g_zretI dX2_takeNumber_13 rfl (by have := e10.1; omega) ?_
    exact ⟨_, rfl, Or.inl ⟨_, hp, e10.1, by rw [e10.2]; exact ⟨by rw [g_u_eq, if_pos rfl]; exact h9, by rw [g_u_eq, if_neg (by decide)]; exact d3⟩, by rw [e10.2]; exact frK.u (by decide)⟩⟩
set_option maxHeartbeats 1200000 in
theorem c_personTold {Γ : gW} {M : gM} (hA : g_Tape Γ)  : Ct Γ yX2_personTold μX2_personTold 0 [.ref 230] M (g_qi (fun z M1 => M1 = M ∧ (z.toInt = 0 ∨ z.toInt = 1) ∧ (z.toInt = 1 ↔ (M.1 230 10).toInt ≤ 4 ∧ (M.1 230 11).toInt < (M.1 160 0).toInt))) := by
  refine g_enter rfl rfl rfl (Nat.le_of_ble_eq_true rfl) ?_
  show G Γ _ _ _ _ 0 [some (.ref 230)] [] M
  refine g_aload_n0 dX2_personTold_0 rfl ?_
  refine g_geti dX2_personTold_1 rfl fX2_48 hA.1 rfl ?_
  refine g_iconstI dX2_personTold_4 rfl rfl (fun w4 h4 => ?_)
  refine g_icmp_gtI (t := 26) dX2_personTold_5 (by decide) rfl (fun c5 => ?_) (fun c5 => ?_)
  · -- 5 t
    refine g_iconstI dX2_personTold_26 rfl rfl (fun w26 h26 => ?_)
    refine g_zretI dX2_personTold_27 rfl (by omega) ?_
    exact ⟨_, rfl, rfl, by omega, by omega⟩
  · -- 5 f
    refine g_aload_n0 dX2_personTold_8 rfl ?_
    refine g_geti dX2_personTold_9 rfl fX2_51 hA.1 rfl ?_
    refine g_aload_n0 dX2_personTold_12 rfl ?_
    refine g_getr dX2_personTold_13 rfl fX2_12 hA.1 rfl ?_
    refine g_geti dX2_personTold_16 rfl fX2_112 hA.2.2.1 rfl ?_
    refine g_icmp_geI (t := 26) dX2_personTold_19 (by decide) rfl (fun c19 => ?_) (fun c19 => ?_)
    · -- 19 t
      refine g_iconstI dX2_personTold_26 rfl rfl (fun w26 h26 => ?_)
      refine g_zretI dX2_personTold_27 rfl (by omega) ?_
      exact ⟨_, rfl, rfl, by omega, by omega⟩
    · -- 19 f
      refine g_iconstI dX2_personTold_22 rfl rfl (fun w22 h22 => ?_)
      refine g_goto (t := 27) dX2_personTold_23 (by decide) ?_
      refine g_zretI dX2_personTold_27 rfl (by omega) ?_
      exact ⟨_, rfl, rfl, by omega, by omega⟩
/-- a person, but not this one -/
def pPerN (t : Nat → Int) (n e : Nat) (m x : Int) : pR Int := pBd (pPer t n e m) (fun v e1 => if v = x then .inl (4, (tkB t n e : Int)) else .inr (v, e1))
theorem pPerN_none {t : Nat → Int} {n e : Nat} {m : Int} : pPerN t n e m (-1) = pPer t n e m := by
  rw [pPerN]
  cases h : pPer t n e m with
  | inl q => rfl
  | inr y =>
    obtain ⟨v, e1⟩ := y
    have := pPer_ok h
    show (if v = -1 then _ else _) = _
    rw [if_neg (by omega)]
set_option maxHeartbeats 1200000 in
theorem c_takePerson {Γ : gW} {M : gM} {t : Nat → Int} {n e : Nat} (hA : g_Tape Γ) (hH : HTc t n M) (he : e ≤ n) (hK : TKc t n e M) {o0 : Int32} {m : Int} (hm : (M.1 160 0).toInt = m) : Ct Γ yX2_takePerson μX2_takePerson 3 [.ref 230, .int o0] M (g_qi (fun z M1 => (∃ q, pPerN t n e m o0.toInt = .inl q ∧ z.toInt = 0 ∧ ERc q M1 ∧ frK M M1) ∨ (∃ v e1, pPerN t n e m o0.toInt = .inr (v, e1) ∧ z.toInt = 1 ∧ (M1.1 230 12).toInt = v ∧ TKc t n e1 M1 ∧ e1 ≤ n ∧ frK M M1))) := by
  have x7 := hH.2.1
  obtain ⟨d1, d2, d3, d4⟩ := id hK
  have d8 := tk_rng (t := t) he
  refine g_enter rfl rfl rfl (Nat.le_of_ble_eq_true rfl) ?_
  show G Γ _ _ _ _ 0 [some (.ref 230), some (.int o0)] [] M
  refine g_aload_n0 dX2_takePerson_0 rfl ?_
  refine g_geti dX2_takePerson_1 rfl fX2_39 hA.1 rfl ?_
  refine g_iconstI dX2_takePerson_4 rfl rfl (fun w4 h4 => ?_)
  refine g_icmp_eqI (t := 14) dX2_takePerson_5 (by decide) rfl (fun c5 => ?_) (fun c5 => ?_)
  · -- 5 t
    have hk2 : tkK t n e = 2 := by omega
    obtain ⟨d5, d6⟩ := d4 hk2
    refine g_aload_n0 dX2_takePerson_14 rfl ?_
    refine g_geti dX2_takePerson_15 rfl fX2_48 hA.1 rfl ?_
    refine g_iconstI dX2_takePerson_18 rfl rfl (fun w18 h18 => ?_)
    refine g_icmp_leI (t := 28) dX2_takePerson_19 (by decide) rfl (fun c19 => ?_) (fun c19 => ?_)
    · -- 19 t
      have d10 := d6 (by omega)
      refine g_aload_n0 dX2_takePerson_28 rfl ?_
      refine g_callVi0 dX2_takePerson_29 rfl vX2_154 hA.1 rfl (c_personTold hA) (g_rm (by omega)) (Nat.le_of_ble_eq_true rfl) (fun z29 M29 e29 => ?_)
      obtain ⟨rfl, e29, f29⟩ := e29
      refine g_if_neI (t := 41) dX2_takePerson_32 (by decide) rfl (fun c32 => ?_) (fun c32 => ?_)
      · -- 32 t
        have hin := f29.mp (by omega)
        clear f29 e29
        refine g_aload_n0 dX2_takePerson_41 rfl ?_
        refine g_geti dX2_takePerson_42 rfl fX2_51 hA.1 rfl ?_
        refine g_iload_n1 dX2_takePerson_45 rfl ?_
        refine g_icmp_neI (t := 55) dX2_takePerson_46 (by decide) rfl (fun c46 => ?_) (fun c46 => ?_)
        · -- 46 t
          have hp : pPerN t n e m o0.toInt = .inr (tkV t n e, tkE t n e) := by
            rw [pPerN, pPer, if_neg (by omega), if_neg (by omega), if_neg (by omega)]
            show (if tkV t n e = o0.toInt then _ else _) = _
            rw [if_neg (by omega)]
          refine g_aload_n0 dX2_takePerson_55 rfl ?_
          refine g_aload_n0 dX2_takePerson_56 rfl ?_
          refine g_geti dX2_takePerson_57 rfl fX2_51 hA.1 rfl ?_
          refine g_put dX2_takePerson_60 rfl fX2_54 hA.1 rfl rfl rfl ?_
          obtain ⟨M2, hM2⟩ : ∃ M2, M2 = g_u M29 230 12 (M29.1 230 11) := ⟨_, rfl⟩
          refine g_fwd (M1 := M2) ?_ hM2
          have hf2 : frK M29 M2 := by rw [hM2]; exact frK.u (by decide)
          have hv2 : (M2.1 230 12).toInt = tkV t n e := by rw [hM2, g_u_eq, if_pos rfl]; exact d10
          have hen : (M2.1 230 9).toInt = (tkE t n e : Int) := by rw [hM2, g_u_eq, if_neg (by decide)]; exact d1
          clear hM2
          refine g_aload_n0 dX2_takePerson_63 rfl ?_
          refine g_callVv0 dX2_takePerson_64 rfl vX2_66 hA.1 rfl (c_step hA (hH.k hf2) d8.2.2.1 hen) (g_rm (by omega)) (Nat.le_of_ble_eq_true rfl) (fun M64 e64 => ?_)
          refine g_iconstI dX2_takePerson_67 rfl rfl (fun w67 h67 => ?_)
          refine g_zretI dX2_takePerson_68 rfl (by omega) ?_
          exact ⟨_, rfl, Or.inr ⟨_, _, hp, h67, by rw [e64.2.2]; exact hv2, e64.2.1, d8.2.2.1, frK.tr hf2 e64.1⟩⟩
        · -- 46 f
          have hp : pPerN t n e m o0.toInt = .inl (4, (tkB t n e : Int)) := by
            rw [pPerN, pPer, if_neg (by omega), if_neg (by omega), if_neg (by omega)]
            show (if tkV t n e = o0.toInt then _ else _) = _
            rw [if_pos (by omega)]
          refine g_aload_n0 dX2_takePerson_49 rfl ?_
          refine g_iconstI dX2_takePerson_50 rfl rfl (fun w50 h50 => ?_)
          refine g_callVi1 dX2_takePerson_51 rfl vX2_108 hA.1 rfl (c_refuse hA) (g_rm (by omega)) (Nat.le_of_ble_eq_true rfl) (fun z51 M51 e51 => ?_)
          refine g_zretI dX2_takePerson_54 rfl (by have := e51.1; omega) ?_
          exact ⟨_, rfl, Or.inl ⟨_, hp, e51.1, by rw [e51.2]; exact ⟨by rw [g_u_eq, if_pos rfl]; exact h50, by rw [g_u_eq, if_neg (by decide)]; exact d3⟩, by rw [e51.2]; exact frK.u (by decide)⟩⟩
      · -- 32 f
        have hin : ¬ (M29.1 230 11).toInt < (M29.1 160 0).toInt := fun h => by have := f29.mpr ⟨by omega, h⟩; omega
        clear f29 e29
        have hp : pPerN t n e m o0.toInt = .inl (3, (tkB t n e : Int)) := by rw [pPerN, pPer, if_neg (by omega), if_neg (by omega), if_pos (by omega)]; rfl
        refine g_aload_n0 dX2_takePerson_35 rfl ?_
        refine g_iconstI dX2_takePerson_36 rfl rfl (fun w36 h36 => ?_)
        refine g_callVi1 dX2_takePerson_37 rfl vX2_108 hA.1 rfl (c_refuse hA) (g_rm (by omega)) (Nat.le_of_ble_eq_true rfl) (fun z37 M37 e37 => ?_)
        refine g_zretI dX2_takePerson_40 rfl (by have := e37.1; omega) ?_
        exact ⟨_, rfl, Or.inl ⟨_, hp, e37.1, by rw [e37.2]; exact ⟨by rw [g_u_eq, if_pos rfl]; exact h36, by rw [g_u_eq, if_neg (by decide)]; exact d3⟩, by rw [e37.2]; exact frK.u (by decide)⟩⟩
    · -- 19 f
      have hp : pPerN t n e m o0.toInt = .inl (2, (tkB t n e : Int)) := by rw [pPerN, pPer, if_neg (by omega), if_pos (by omega)]; rfl
      refine g_aload_n0 dX2_takePerson_22 rfl ?_
      refine g_iconstI dX2_takePerson_23 rfl rfl (fun w23 h23 => ?_)
      refine g_callVi1 dX2_takePerson_24 rfl vX2_108 hA.1 rfl (c_refuse hA) (g_rm (by omega)) (Nat.le_of_ble_eq_true rfl) (fun z24 M24 e24 => ?_)
      refine g_zretI dX2_takePerson_27 rfl (by have := e24.1; omega) ?_
      exact ⟨_, rfl, Or.inl ⟨_, hp, e24.1, by rw [e24.2]; exact ⟨by rw [g_u_eq, if_pos rfl]; exact h23, by rw [g_u_eq, if_neg (by decide)]; exact d3⟩, by rw [e24.2]; exact frK.u (by decide)⟩⟩
  · -- 5 f
    have hp : pPerN t n e m o0.toInt = .inl (1, (tkB t n e : Int)) := by rw [pPerN, pPer, if_pos (by omega)]; rfl
    refine g_aload_n0 dX2_takePerson_8 rfl ?_
    refine g_iconstI dX2_takePerson_9 rfl rfl (fun w9 h9 => ?_)
    refine g_callVi1 dX2_takePerson_10 rfl vX2_108 hA.1 rfl (c_refuse hA) (g_rm (by omega)) (Nat.le_of_ble_eq_true rfl) (fun z10 M10 e10 => ?_)
    refine g_zretI dX2_takePerson_13 rfl (by have := e10.1; omega) ?_
    exact ⟨_, rfl, Or.inl ⟨_, hp, e10.1, by rw [e10.2]; exact ⟨by rw [g_u_eq, if_pos rfl]; exact h9, by rw [g_u_eq, if_neg (by decide)]; exact d3⟩, by rw [e10.2]; exact frK.u (by decide)⟩⟩
set_option maxHeartbeats 1200000 in
theorem c_takeStop {Γ : gW} {M : gM} {t : Nat → Int} {n e : Nat} (hA : g_Tape Γ) (hH : HTc t n M) (he : e ≤ n) (hK : TKc t n e M) {α : Type} {x : α} : Ct Γ yX2_takeStop μX2_takeStop 3 [.ref 230] M (g_qi (fun z M1 => (∃ q, pStop t n x e = .inl q ∧ z.toInt = 0 ∧ ERc q M1 ∧ frK M M1) ∨ (∃ e1, pStop t n x e = .inr (x, e1) ∧ z.toInt = 1 ∧ TKc t n e1 M1 ∧ e1 ≤ n ∧ frK M M1))) := by
  have x7 := hH.2.1
  obtain ⟨d1, d2, d3, d4⟩ := id hK
  have d8 := tk_rng (t := t) he
  refine g_enter rfl rfl rfl (Nat.le_of_ble_eq_true rfl) ?_
  show G Γ _ _ _ _ 0 [some (.ref 230)] [] M
  refine g_aload_n0 dX2_takeStop_0 rfl ?_
  refine g_geti dX2_takeStop_1 rfl fX2_39 hA.1 rfl ?_
  refine g_iconstI dX2_takeStop_4 rfl rfl (fun w4 h4 => ?_)
  refine g_icmp_eqI (t := 14) dX2_takeStop_5 (by decide) rfl (fun c5 => ?_) (fun c5 => ?_)
  · -- 5 t
    have hp : pStop t n x e = .inr (x, tkE t n e) := by rw [pStop, if_pos (by omega)]
    refine g_aload_n0 dX2_takeStop_14 rfl ?_
    refine g_callVv0 dX2_takeStop_15 rfl vX2_66 hA.1 rfl (c_step hA hH d8.2.2.1 d1) (g_rm (by omega)) (Nat.le_of_ble_eq_true rfl) (fun M15 e15 => ?_)
    refine g_iconstI dX2_takeStop_18 rfl rfl (fun w18 h18 => ?_)
    refine g_zretI dX2_takeStop_19 rfl (by omega) ?_
    exact ⟨_, rfl, Or.inr ⟨_, hp, h18, e15.2.1, d8.2.2.1, e15.1⟩⟩
  · -- 5 f
    have hp : pStop t n x e = .inl (1, (tkB t n e : Int)) := by rw [pStop, if_neg (by omega)]
    refine g_aload_n0 dX2_takeStop_8 rfl ?_
    refine g_iconstI dX2_takeStop_9 rfl rfl (fun w9 h9 => ?_)
    refine g_callVi1 dX2_takeStop_10 rfl vX2_108 hA.1 rfl (c_refuse hA) (g_rm (by omega)) (Nat.le_of_ble_eq_true rfl) (fun z10 M10 e10 => ?_)
    refine g_zretI dX2_takeStop_13 rfl (by have := e10.1; omega) ?_
    exact ⟨_, rfl, Or.inl ⟨_, hp, e10.1, by rw [e10.2]; exact ⟨by rw [g_u_eq, if_pos rfl]; exact h9, by rw [g_u_eq, if_neg (by decide)]; exact d3⟩, by rw [e10.2]; exact frK.u (by decide)⟩⟩
set_option maxHeartbeats 1200000 in
theorem c_kindTold {Γ : gW} {M : gM} {t : Nat → Int} {n e : Nat} (hA : g_Tape Γ) (hH : HTc t n M) (he : e ≤ n) (hK : TKc t n e M)  : Ct Γ yX2_kindTold μX2_kindTold 5 [.ref 230] M (g_qi (fun z M1 => M1 = M ∧ z.toInt = kindW t n e)) := by
  refine g_enter rfl rfl rfl (Nat.le_of_ble_eq_true rfl) ?_
  show G Γ _ _ _ _ 0 [some (.ref 230)] [] M
  refine g_aload_n0 dX2_kindTold_0 rfl ?_
  refine g_ldcS (c := 2) dX2_kindTold_1 rfl rfl ?_
  refine g_callVi1 dX2_kindTold_3 rfl vX2_78 hA.1 rfl (c_isWord (c := 2) hA hH he hK rfl) (g_rm (by omega)) (Nat.le_of_ble_eq_true rfl) (fun z3 M3 e3 => ?_)
  obtain ⟨rfl, e3, f3⟩ := e3
  replace f3 : z3.toInt = 1 ↔ isW t n e w_plain := f3
  refine g_if_eqI (t := 11) dX2_kindTold_6 (by decide) rfl (fun c6 => ?_) (fun c6 => ?_)
  · -- 6 t
    have n_plain : ¬ isW t n e w_plain := fun h => by have := f3.mpr h; omega
    clear f3 e3
    refine g_aload_n0 dX2_kindTold_11 rfl ?_
    refine g_ldcS (c := 3) dX2_kindTold_12 rfl rfl ?_
    refine g_callVi1 dX2_kindTold_14 rfl vX2_78 hA.1 rfl (c_isWord (c := 3) hA hH he hK rfl) (g_rm (by omega)) (Nat.le_of_ble_eq_true rfl) (fun z14 M14 e14 => ?_)
    obtain ⟨rfl, e14, f14⟩ := e14
    replace f14 : z14.toInt = 1 ↔ isW t n e w_least := f14
    refine g_if_eqI (t := 22) dX2_kindTold_17 (by decide) rfl (fun c17 => ?_) (fun c17 => ?_)
    · -- 17 t
      have n_least : ¬ isW t n e w_least := fun h => by have := f14.mpr h; omega
      clear f14 e14
      refine g_aload_n0 dX2_kindTold_22 rfl ?_
      refine g_ldcS (c := 4) dX2_kindTold_23 rfl rfl ?_
      refine g_callVi1 dX2_kindTold_25 rfl vX2_78 hA.1 rfl (c_isWord (c := 4) hA hH he hK rfl) (g_rm (by omega)) (Nat.le_of_ble_eq_true rfl) (fun z25 M25 e25 => ?_)
      obtain ⟨rfl, e25, f25⟩ := e25
      replace f25 : z25.toInt = 1 ↔ isW t n e w_fewest := f25
      refine g_if_eqI (t := 33) dX2_kindTold_28 (by decide) rfl (fun c28 => ?_) (fun c28 => ?_)
      · -- 28 t
        have n_fewest : ¬ isW t n e w_fewest := fun h => by have := f25.mpr h; omega
        clear f25 e25
        refine g_aload_n0 dX2_kindTold_33 rfl ?_
        refine g_ldcS (c := 5) dX2_kindTold_34 rfl rfl ?_
        refine g_callVi1 dX2_kindTold_36 rfl vX2_78 hA.1 rfl (c_isWord (c := 5) hA hH he hK rfl) (g_rm (by omega)) (Nat.le_of_ble_eq_true rfl) (fun z36 M36 e36 => ?_)
        obtain ⟨rfl, e36, f36⟩ := e36
        replace f36 : z36.toInt = 1 ↔ isW t n e w_aim := f36
        refine g_if_eqI (t := 44) dX2_kindTold_39 (by decide) rfl (fun c39 => ?_) (fun c39 => ?_)
        · -- 39 t
          have n_aim : ¬ isW t n e w_aim := fun h => by have := f36.mpr h; omega
          clear f36 e36
          refine g_aload_n0 dX2_kindTold_44 rfl ?_
          refine g_ldcS (c := 6) dX2_kindTold_45 rfl rfl ?_
          refine g_callVi1 dX2_kindTold_47 rfl vX2_78 hA.1 rfl (c_isWord (c := 6) hA hH he hK rfl) (g_rm (by omega)) (Nat.le_of_ble_eq_true rfl) (fun z47 M47 e47 => ?_)
          obtain ⟨rfl, e47, f47⟩ := e47
          replace f47 : z47.toInt = 1 ↔ isW t n e w_wait := f47
          refine g_if_eqI (t := 57) dX2_kindTold_50 (by decide) rfl (fun c50 => ?_) (fun c50 => ?_)
          · -- 50 t
            have n_wait : ¬ isW t n e w_wait := fun h => by have := f47.mpr h; omega
            clear f47 e47
            refine g_iconstI dX2_kindTold_57 rfl rfl (fun w57 h57 => ?_)
            refine g_iret dX2_kindTold_58 rfl ?_
            refine ⟨_, rfl, rfl, ?_⟩
            rw [kindW, pIf_neg n_plain, pIf_neg n_least, pIf_neg n_fewest, pIf_neg n_aim]
            first
              | (rw [pIf_pos y_wait]; exact h53)
              | (rw [pIf_neg n_wait]; exact h57)
          · -- 50 f
            have y_wait := f47.mp (by omega)
            clear f47 e47
            refine g_iconstI dX2_kindTold_53 rfl rfl (fun w53 h53 => ?_)
            refine g_goto (t := 58) dX2_kindTold_54 (by decide) ?_
            refine g_iret dX2_kindTold_58 rfl ?_
            refine ⟨_, rfl, rfl, ?_⟩
            rw [kindW, pIf_neg n_plain, pIf_neg n_least, pIf_neg n_fewest, pIf_neg n_aim]
            first
              | (rw [pIf_pos y_wait]; exact h53)
              | (rw [pIf_neg n_wait]; exact h57)
        · -- 39 f
          have y_aim := f36.mp (by omega)
          clear f36 e36
          refine g_iconstI dX2_kindTold_42 rfl rfl (fun w42 h42 => ?_)
          refine g_iret dX2_kindTold_43 rfl ?_
          refine ⟨_, rfl, rfl, ?_⟩
          rw [kindW, pIf_neg n_plain, pIf_neg n_least, pIf_neg n_fewest, pIf_pos y_aim]; exact h42
      · -- 28 f
        have y_fewest := f25.mp (by omega)
        clear f25 e25
        refine g_iconstI dX2_kindTold_31 rfl rfl (fun w31 h31 => ?_)
        refine g_iret dX2_kindTold_32 rfl ?_
        refine ⟨_, rfl, rfl, ?_⟩
        rw [kindW, pIf_neg n_plain, pIf_neg n_least, pIf_pos y_fewest]; exact h31
    · -- 17 f
      have y_least := f14.mp (by omega)
      clear f14 e14
      refine g_iconstI dX2_kindTold_20 rfl rfl (fun w20 h20 => ?_)
      refine g_iret dX2_kindTold_21 rfl ?_
      refine ⟨_, rfl, rfl, ?_⟩
      rw [kindW, pIf_neg n_plain, pIf_pos y_least]; exact h20
  · -- 6 f
    have y_plain := f3.mp (by omega)
    clear f3 e3
    refine g_iconstI dX2_kindTold_9 rfl rfl (fun w9 h9 => ?_)
    refine g_iret dX2_kindTold_10 rfl ?_
    refine ⟨_, rfl, rfl, ?_⟩
    rw [kindW, pIf_pos y_plain]; exact h9
