set_option maxHeartbeats 1200000 in
theorem l_tellB {Γ : gW} {M0 : gM} {T : gTw} (hR : g_Ref Γ) (hO : TOK T) (hC : CR T M0) (hW : WR T M0) {s sd : Int32} (hs : 0 ≤ s.toInt) {Q : Option Value → gM → Prop} (hQ : ∀ M : gM, cmI M0 M 4000 (mkS T s.toInt.toNat sd.toInt (T 0 1).toNat) → Q none M) : ∀ (n9 : Nat) (i : Int32) (M : gM) (z4 : Option Value), (T 0 1).toNat - i.toInt.toNat = n9 → 0 ≤ i.toInt → i.toInt ≤ T 0 1 → cmI M0 M 4000 (mkS T s.toInt.toNat sd.toInt i.toInt.toNat) → G Γ μX6_tellWeights (g_R 0) (0, 0) (g_Z Γ Q) 35 [some (.ref 300), some (.int s), some (.int sd), some (.int i), z4] [] M := by
  intro n9
  induction n9 using Nat.strongRecOn with
  | ind n9 ih =>
    intro i M z4 hn hi0 hi1 hcm
    obtain ⟨o_pe, o_th, o_la, o_wi, o_da, o_we, o_p, o_i⟩ := id hO
    obtain ⟨r_0, r_1, r_2, r_3, r_p, r_i⟩ := id hC
    clear o_p r_p r_i o_la o_da o_we
    have m402 := hcm.1 402 (by decide)
    have e4 : (Int32.ofNat 4000).toInt = 4000 := rfl
    refine g_iload_n3 dX6_tellWeights_35 rfl ?_
    refine g_aload_n0 dX6_tellWeights_36 rfl ?_
    refine g_getr dX6_tellWeights_37 rfl fX6_25 hR.1 rfl ?_
    refine g_iconstI dX6_tellWeights_40 rfl rfl (fun w40 h40 => ?_)
    refine g_ialdI dX6_tellWeights_41 rfl (rf_told hR) ⟨by omega, by omega⟩ ?_
    have et41 : w40.toInt.toNat = 1 := by omega
    rw [et41, m402]
    clear et41
    refine g_icmp_geI (t := 112) dX6_tellWeights_42 (by decide) rfl (fun c42 => ?_) (fun c42 => ?_)
    · -- 42 t
      refine g_vret dX6_tellWeights_112 rfl ?_
      exact hQ M (by rw [show (T 0 1).toNat = i.toInt.toNat by omega]; exact hcm)
    · -- 42 f
      refine g_iload_n1 dX6_tellWeights_45 rfl ?_
      refine g_iload_n3 dX6_tellWeights_46 rfl ?_
      refine g_ishrB dX6_tellWeights_47 rfl ⟨by omega, by omega, by omega⟩ (fun w47 h47 => ?_)
      refine g_iconstI dX6_tellWeights_48 rfl rfl (fun w48 h48 => ?_)
      refine g_iandB dX6_tellWeights_49 rfl  (fun w49 h49 => ?_)
      have hbit := bit_and1 s.toInt.toNat i.toInt.toNat
      rw [h47, bn_lit (n := 1) h48, bn_toNat hs, hbit] at h49
      have h49c : w49.toInt = if s.toInt.toNat.testBit i.toInt.toNat then 1 else 0 := by
        rw [i_bn (by rw [h49]; split <;> omega), h49]; split <;> rfl
      clear hbit
      refine g_if_neI (t := 56) dX6_tellWeights_50 (by decide) rfl (fun c50 => ?_) (fun c50 => ?_)
      · -- 50 t
        have hb : s.toInt.toNat.testBit i.toInt.toNat = true := by
          by_cases hb : s.toInt.toNat.testBit i.toInt.toNat = true
          · exact hb
          · rw [if_neg hb] at h49c; omega
        refine g_aload_n0 dX6_tellWeights_56 rfl ?_
        refine g_getr dX6_tellWeights_57 rfl fX6_106 hR.1 rfl ?_
        refine g_alen dX6_tellWeights_60 rfl (rf_canMake hR) (by decide) rfl ?_
        refine g_iconstI dX6_tellWeights_61 rfl rfl (fun w61 h61 => ?_)
        refine g_isubI dX6_tellWeights_62 rfl ⟨by omega, by omega⟩ (fun w62 h62 => ?_)
        refine g_istore4 dX6_tellWeights_63 rfl rfl ?_
        refine l_tellC hR hO hC hW hs ⟨hi0, by omega⟩ hb (fun M1 x1 hc1 => ?_) _ _ M rfl (by omega) (by omega) (cm_congr hcm (fun v hv => ?_))
        · refine g_iincI3 dX6_tellWeights_106 rfl rfl rfl ⟨by omega, by omega⟩ (fun w106 h106 => ?_)
          refine g_goto (t := 35) dX6_tellWeights_109 (by decide) ?_
          exact ih _ (by omega) _ _ _ rfl (by omega) (by omega) (by rw [h106, show (i.toInt + 1).toNat = i.toInt.toNat + 1 by omega]; exact hc1)
        · show _ ↔ if _ < (v : Int) then _ else _
          rw [if_neg (by omega)]
      · -- 50 f
        have hb : ¬ s.toInt.toNat.testBit i.toInt.toNat = true := fun hb => by rw [if_pos hb] at h49c; omega
        refine g_goto (t := 106) dX6_tellWeights_53 (by decide) ?_
        refine g_iincI3 dX6_tellWeights_106 rfl rfl rfl ⟨by omega, by omega⟩ (fun w106 h106 => ?_)
        refine g_goto (t := 35) dX6_tellWeights_109 (by decide) ?_
        exact ih _ (by omega) _ _ _ rfl (by omega) (by omega) (by rw [h106, show (i.toInt + 1).toNat = i.toInt.toNat + 1 by omega]; exact cm_congr hcm (fun v _ => (mkS_no hb).symm))
set_option maxHeartbeats 1200000 in
theorem r_tellWeights {Γ : gW} {M : gM} {T : gTw} (hR : g_Ref Γ) (hO : TOK T) (hC : CR T M) (hW : WR T M) {s sd : Int32} (hs : 0 ≤ s.toInt)  : Ct Γ yX6_tellWeights μX6_tellWeights 0 [.ref 300, .int s, .int sd] M (g_qv (fun M1 => cmI M M1 4000 (mkS T s.toInt.toNat sd.toInt (T 0 1).toNat))) := by
  obtain ⟨o_pe, o_th, o_la, o_wi, o_da, o_we, o_p, o_i⟩ := id hO
  obtain ⟨r_0, r_1, r_2, r_3, r_p, r_i⟩ := id hC
  refine g_enter rfl rfl rfl (Nat.le_of_ble_eq_true rfl) ?_
  show G Γ _ _ _ _ 0 [some (.ref 300), some (.int s), some (.int sd), none, none] [] M
  refine g_iconstI dX6_tellWeights_0 rfl rfl (fun w0 h0 => ?_)
  refine g_istore_n3 dX6_tellWeights_1 rfl rfl ?_
  refine l_tellA hR hO hC hW hs (fun M1 i1 hc1 => ?_) _ _ M rfl (by omega) (by omega) ⟨fun _ _ => rfl, rfl, fun v hv => by rw [h0] at hv; simp at hv⟩
  refine g_iconstI dX6_tellWeights_33 rfl rfl (fun w33 h33 => ?_)
  refine g_istore_n3 dX6_tellWeights_34 rfl rfl ?_
  exact l_tellB hR hO hC hW hs (fun M2 h2 => ⟨rfl, h2⟩) _ _ _ _ rfl (by omega) (by omega) (by rw [h33]; exact cm_congr hc1 (fun v _ => mkS_0.symm))
set_option maxHeartbeats 1200000 in
theorem l_made {Γ : gW} {M : gM} (hR : g_Ref Γ) {n : Int32} (hn : 0 ≤ n.toInt ∧ n.toInt ≤ 999) (h01 : ∀ v, v < 4000 → (M.1 446 v).toInt = 0 ∨ (M.1 446 v).toInt = 1) {Q : Option Value → gM → Prop} (hQ : ∀ z : Int32, z.toInt = (cntP (fun v => (M.1 446 (v + 1)).toInt = 1) n.toInt.toNat) → Q (some (.int z)) M) : ∀ (n9 : Nat) (m v : Int32), (n.toInt + 1 - v.toInt).toNat = n9 → 1 ≤ v.toInt → v.toInt ≤ n.toInt + 1 → m.toInt = (cntP (fun v => (M.1 446 (v + 1)).toInt = 1) (v.toInt - 1).toNat) → G Γ μX6_madeUpTo (g_R 0) (0, 0) (g_Z Γ Q) 4 [some (.ref 300), some (.int n), some (.int m), some (.int v)] [] M := by
  intro n9
  induction n9 using Nat.strongRecOn with
  | ind n9 ih =>
    intro m v h9 hv1 hv2 hm
    have hcr := cntP_rng (fun v => (M.1 446 (v + 1)).toInt = 1) (v.toInt - 1).toNat
    refine g_iload_n3 dX6_madeUpTo_4 rfl ?_
    refine g_iload_n1 dX6_madeUpTo_5 rfl ?_
    refine g_icmp_gtI (t := 32) dX6_madeUpTo_6 (by decide) rfl (fun c6 => ?_) (fun c6 => ?_)
    · -- 6 t
      refine g_iload_n2 dX6_madeUpTo_32 rfl ?_
      refine g_iret dX6_madeUpTo_33 rfl ?_
      exact hQ _ (by rw [hm, show (v.toInt - 1).toNat = n.toInt.toNat by omega])
    · -- 6 f
      refine g_iload_n2 dX6_madeUpTo_9 rfl ?_
      refine g_aload_n0 dX6_madeUpTo_10 rfl ?_
      refine g_getr dX6_madeUpTo_11 rfl fX6_106 hR.1 rfl ?_
      refine g_iload_n3 dX6_madeUpTo_14 rfl ?_
      refine g_zaldI dX6_madeUpTo_15 rfl (rf_canMake hR) ⟨by omega, by omega⟩ ?_
      have hb := h01 v.toInt.toNat (by omega)
      have ev : v.toInt.toNat = (v.toInt - 1).toNat + 1 := by omega
      have hst : (cntP (fun v => (M.1 446 (v + 1)).toInt = 1) ((v.toInt - 1).toNat + 1)) = (cntP (fun v => (M.1 446 (v + 1)).toInt = 1) (v.toInt - 1).toNat) + (if (M.1 446 v.toInt.toNat).toInt = 1 then 1 else 0) := by
        by_cases h : (M.1 446 v.toInt.toNat).toInt = 1
        · rw [if_pos h, cntP_yes (by rw [← ev]; exact h)]
        · rw [if_neg h, cntP_no (by rw [← ev]; exact h)]; omega
      refine g_if_eqI (t := 23) dX6_madeUpTo_16 (by decide) rfl (fun c16 => ?_) (fun c16 => ?_)
      · -- 16 t
        refine g_iconstI dX6_madeUpTo_23 rfl rfl (fun w23 h23 => ?_)
        refine g_iaddI dX6_madeUpTo_24 rfl ⟨by omega, by omega⟩ (fun w24 h24 => ?_)
        refine g_istore_n2 dX6_madeUpTo_25 rfl rfl ?_
        refine g_iincI3 dX6_madeUpTo_26 rfl rfl rfl ⟨by omega, by omega⟩ (fun w26 h26 => ?_)
        refine g_goto (t := 4) dX6_madeUpTo_29 (by decide) ?_
        have e1 : (w26.toInt - 1).toNat = (v.toInt - 1).toNat + 1 := by omega
        refine ih _ (by omega) _ _ rfl (by omega) (by omega) ?_
        rw [e1, hst]
        first
          | (have hz := h19; rw [if_pos (by omega)]; omega)
          | (have hz := h23; rw [if_neg (by omega)]; omega)
      · -- 16 f
        refine g_iconstI dX6_madeUpTo_19 rfl rfl (fun w19 h19 => ?_)
        refine g_goto (t := 24) dX6_madeUpTo_20 (by decide) ?_
        refine g_iaddI dX6_madeUpTo_24 rfl ⟨by omega, by omega⟩ (fun w24 h24 => ?_)
        refine g_istore_n2 dX6_madeUpTo_25 rfl rfl ?_
        refine g_iincI3 dX6_madeUpTo_26 rfl rfl rfl ⟨by omega, by omega⟩ (fun w26 h26 => ?_)
        refine g_goto (t := 4) dX6_madeUpTo_29 (by decide) ?_
        have e1 : (w26.toInt - 1).toNat = (v.toInt - 1).toNat + 1 := by omega
        refine ih _ (by omega) _ _ rfl (by omega) (by omega) ?_
        rw [e1, hst]
        first
          | (have hz := h19; rw [if_pos (by omega)]; omega)
          | (have hz := h23; rw [if_neg (by omega)]; omega)
set_option maxHeartbeats 1200000 in
theorem r_madeUpTo {Γ : gW} {M : gM} (hR : g_Ref Γ) {n : Int32} (hn : 0 ≤ n.toInt ∧ n.toInt ≤ 999) (h01 : ∀ v, v < 4000 → (M.1 446 v).toInt = 0 ∨ (M.1 446 v).toInt = 1)  : Ct Γ yX6_madeUpTo μX6_madeUpTo 0 [.ref 300, .int n] M (g_qi (fun z M1 => M1 = M ∧ z.toInt = (cntP (fun v => (M.1 446 (v + 1)).toInt = 1) n.toInt.toNat))) := by
  refine g_enter rfl rfl rfl (Nat.le_of_ble_eq_true rfl) ?_
  show G Γ _ _ _ _ 0 [some (.ref 300), some (.int n), none, none] [] M
  refine g_iconstI dX6_madeUpTo_0 rfl rfl (fun w0 h0 => ?_)
  refine g_istore_n2 dX6_madeUpTo_1 rfl rfl ?_
  refine g_iconstI dX6_madeUpTo_2 rfl rfl (fun w2 h2 => ?_)
  refine g_istore_n3 dX6_madeUpTo_3 rfl rfl ?_
  exact l_made hR hn h01 (fun z hz => ⟨_, rfl, rfl, hz⟩) _ _ _ rfl (by omega) (by omega) (by rw [h0, h2]; rfl)
set_option maxHeartbeats 1200000 in
theorem r_answers {Γ : gW} {M : gM} {T : gTw} (hR : g_Ref Γ) (hO : TOK T) (hS : RS T M) {p n sb : Int32} : Ct Γ yX6_answers μX6_answers 2 [.ref 300, .int p, .int n, .int sb] M (g_qi (fun z M1 => (¬ (0 ≤ p.toInt ∧ p.toInt < T 0 0) ∧ z.toInt = 0 ∧ M1 = g_u (g_u M 300 1 0) 300 1 1) ∨ ((0 ≤ p.toInt ∧ p.toInt < T 0 0) ∧ ¬ (1 ≤ n.toInt ∧ n.toInt ≤ 999) ∧ z.toInt = 0 ∧ M1 = g_u (g_u M 300 1 0) 300 1 2) ∨ ((0 ≤ p.toInt ∧ p.toInt < T 0 0) ∧ (1 ≤ n.toInt ∧ n.toInt ≤ 999) ∧ (∀ j, j ≠ 446 → M1.1 j = (g_u M 300 1 0).1 j) ∧ M1.2 = M.2 ∧ z.toInt = cntP (fun v => mkS T (hasT T p.toInt.toNat) (if sb.toInt = 0 then 0 else T 3 p.toInt.toNat) (T 0 1).toNat (v + 1)) n.toInt.toNat))) := by
  have hS0 := RS.code (x := 0) hS
  obtain ⟨hC, hW, hA, hDy, hWe⟩ := id hS0
  obtain ⟨o_pe, o_th, o_la, o_wi, o_da, o_we, o_p, o_i⟩ := id hO
  obtain ⟨r_0, r_1, r_2, r_3, r_p, r_i⟩ := id hC
  refine g_enter rfl rfl rfl (Nat.le_of_ble_eq_true rfl) ?_
  show G Γ _ _ _ _ 0 [some (.ref 300), some (.int p), some (.int n), some (.int sb)] [] M
  refine g_aload_n0 dX6_answers_0 rfl ?_
  refine g_iconst (v := 0) dX6_answers_1 rfl rfl ?_
  refine g_put dX6_answers_2 rfl fX6_128 hR.1 rfl rfl rfl ?_
  refine g_aload_n0 dX6_answers_5 rfl ?_
  refine g_iload_n1 dX6_answers_6 rfl ?_
  refine g_callVi1 dX6_answers_7 rfl vX6_263 hR.1 rfl (r_isPerson hR hO hC) (g_rm (by omega)) (Nat.le_of_ble_eq_true rfl) (fun z7 M7 e7 => ?_)
  obtain ⟨e7a, e7, f7⟩ := e7
  subst e7a
  refine g_if_neI (t := 19) dX6_answers_10 (by decide) rfl (fun c10 => ?_) (fun c10 => ?_)
  · -- 10 t
    have hp := f7.mp (by omega)
    clear f7 e7
    obtain ⟨-, -, op3, -, -, op6, -⟩ := o_p p.toInt.toNat (by omega)
    obtain ⟨a_s, -, -, -⟩ := hA.1 p.toInt.toNat (by omega)
    rw [g_u_ne (show 407 ≠ 300 by decide)] at a_s
    have epn : ((p.toInt.toNat : Nat) : Int) = p.toInt := by omega
    clear o_p o_i r_p r_i o_la o_da o_we
    refine g_iload_n2 dX6_answers_19 rfl ?_
    refine g_iconstI dX6_answers_20 rfl rfl (fun w20 h20 => ?_)
    refine g_sipushI dX6_answers_21 rfl rfl (fun w21 h21 => ?_)
    refine g_callSi3 dX6_answers_24 rfl sX6_131 (r_isIn) (g_rm (by omega)) (Nat.le_of_ble_eq_true rfl) (fun z24 M24 e24 => ?_)
    obtain ⟨e24a, e24, f24⟩ := e24
    subst e24a
    refine g_if_neI (t := 36) dX6_answers_27 (by decide) rfl (fun c27 => ?_) (fun c27 => ?_)
    · -- 27 t
      have hn : 1 ≤ n.toInt ∧ n.toInt ≤ 999 := by have := f24.mp (by omega); omega
      clear f24 e24
      refine g_aload_n0 dX6_answers_36 rfl ?_
      refine g_aload_n0 dX6_answers_37 rfl ?_
      refine g_aload_n0 dX6_answers_38 rfl ?_
      refine g_getr dX6_answers_39 rfl fX6_41 hR.1 rfl ?_
      refine g_iload_n1 dX6_answers_42 rfl ?_
      refine g_callVi2 dX6_answers_43 rfl vX6_266 hR.1 rfl (r_hasOf hR hO hC (rf_now hR)) (g_rm (by omega)) (Nat.le_of_ble_eq_true rfl) (fun z43 M43 e43 => ?_)
      obtain ⟨e43a, e43⟩ := e43
      subst e43a
      rw [← epn, RW.has hA (by omega)] at e43
      have hh4 : hasT T p.toInt.toNat < 4096 := by rw [hasT]; omega
      have ez43 : z43.toInt = (hasT T p.toInt.toNat : Int) := by rw [i_bn (by omega), e43]
      have en43 : z43.toInt.toNat = hasT T p.toInt.toNat := by omega
      refine g_iload_n3 dX6_answers_46 rfl ?_
      refine g_if_eqI (t := 62) dX6_answers_47 (by decide) rfl (fun c47 => ?_) (fun c47 => ?_)
      · -- 47 t
        refine g_iconstI dX6_answers_62 rfl rfl (fun w62 h62 => ?_)
        refine g_callVv2 dX6_answers_63 rfl vX6_377 hR.1 rfl (r_tellWeights hR hO hC hW (by omega)) (g_rm (by omega)) (Nat.le_of_ble_eq_true rfl) (fun M63 e63 => ?_)
        refine g_aload_n0 dX6_answers_66 rfl ?_
        refine g_iload_n2 dX6_answers_67 rfl ?_
        refine g_callVi1 dX6_answers_68 rfl vX6_380 hR.1 rfl (r_madeUpTo hR ⟨by omega, by omega⟩ (fun v hv => (e63.2.2 v hv).1)) (g_rm (by omega)) (Nat.le_of_ble_eq_true rfl) (fun z68 M68 e68 => ?_)
        obtain ⟨e68a, e68⟩ := e68
        subst e68a
        refine g_iret dX6_answers_71 rfl ?_
        refine ⟨_, rfl, Or.inr (Or.inr ⟨hp, hn, e63.1, e63.2.1, ?_⟩)⟩
        rw [e68]
        refine cntP_congr (fun v hv => ?_)
        have h := (e63.2.2 (v + 1) (by omega)).2
        rw [en43] at h
        first
          | (have hz := h62; rw [hz] at h; rw [if_pos (by omega)]; exact h)
          | (rw [a_s] at h; rw [if_neg (by omega)]; exact h)
      · -- 47 f
        refine g_aload_n0 dX6_answers_50 rfl ?_
        refine g_getr dX6_answers_51 rfl fX6_41 hR.1 rfl ?_
        refine g_bipushI dX6_answers_54 rfl rfl (fun w54 h54 => ?_)
        refine g_iload_n1 dX6_answers_56 rfl ?_
        refine g_iaddI dX6_answers_57 rfl ⟨by omega, by omega⟩ (fun w57 h57 => ?_)
        refine g_ialdI dX6_answers_58 rfl (rf_now hR) ⟨by omega, by omega⟩ ?_
        rw [g_u_ne (show 407 ≠ 300 by omega)]
        rw [show w57.toInt.toNat = 12 + p.toInt.toNat by omega]
        refine g_goto (t := 63) dX6_answers_59 (by decide) ?_
        refine g_callVv2 dX6_answers_63 rfl vX6_377 hR.1 rfl (r_tellWeights hR hO hC hW (by omega)) (g_rm (by omega)) (Nat.le_of_ble_eq_true rfl) (fun M63 e63 => ?_)
        refine g_aload_n0 dX6_answers_66 rfl ?_
        refine g_iload_n2 dX6_answers_67 rfl ?_
        refine g_callVi1 dX6_answers_68 rfl vX6_380 hR.1 rfl (r_madeUpTo hR ⟨by omega, by omega⟩ (fun v hv => (e63.2.2 v hv).1)) (g_rm (by omega)) (Nat.le_of_ble_eq_true rfl) (fun z68 M68 e68 => ?_)
        obtain ⟨e68a, e68⟩ := e68
        subst e68a
        refine g_iret dX6_answers_71 rfl ?_
        refine ⟨_, rfl, Or.inr (Or.inr ⟨hp, hn, e63.1, e63.2.1, ?_⟩)⟩
        rw [e68]
        refine cntP_congr (fun v hv => ?_)
        have h := (e63.2.2 (v + 1) (by omega)).2
        rw [en43] at h
        first
          | (have hz := h62; rw [hz] at h; rw [if_pos (by omega)]; exact h)
          | (rw [a_s] at h; rw [if_neg (by omega)]; exact h)
    · -- 27 f
      have hn : ¬ (1 ≤ n.toInt ∧ n.toInt ≤ 999) := fun h => by have := f24.mpr (by omega); omega
      clear f24 e24
      refine g_aload_n0 dX6_answers_30 rfl ?_
      refine g_iconst (v := 2) dX6_answers_31 rfl rfl ?_
      refine g_callVi1 dX6_answers_32 rfl vX6_243 hR.1 rfl (r_fail hR) (g_rm (by omega)) (Nat.le_of_ble_eq_true rfl) (fun z32 M32 e32 => ?_)
      obtain ⟨e32a, e32⟩ := e32
      subst e32a
      refine g_iret dX6_answers_35 rfl ?_
      exact ⟨_, rfl, Or.inr (Or.inl ⟨hp, hn, e32, rfl⟩)⟩
  · -- 10 f
    have hp : ¬ (0 ≤ p.toInt ∧ p.toInt < T 0 0) := fun h => by have := f7.mpr h; omega
    clear f7 e7
    refine g_aload_n0 dX6_answers_13 rfl ?_
    refine g_iconst (v := 1) dX6_answers_14 rfl rfl ?_
    refine g_callVi1 dX6_answers_15 rfl vX6_243 hR.1 rfl (r_fail hR) (g_rm (by omega)) (Nat.le_of_ble_eq_true rfl) (fun z15 M15 e15 => ?_)
    obtain ⟨e15a, e15⟩ := e15
    subst e15a
    refine g_iret dX6_answers_18 rfl ?_
    exact ⟨_, rfl, Or.inl ⟨by omega, e15, rfl⟩⟩
