set_option maxHeartbeats 1200000 in
theorem r_fault {Γ : gW} {M : gM} (hR : g_Ref Γ)  : Ct Γ yX6_fault μX6_fault 0 [.ref 300] M (g_qi (fun z M1 => M1 = g_u M 300 1 0 ∧ z = M.1 300 23)) := by
  refine g_enter rfl rfl rfl (Nat.le_of_ble_eq_true rfl) ?_
  show G Γ _ _ _ _ 0 [some (.ref 300)] [] M
  refine g_aload_n0 dX6_fault_0 rfl ?_
  refine g_iconst (v := 0) dX6_fault_1 rfl rfl ?_
  refine g_put dX6_fault_2 rfl fX6_128 hR.1 rfl rfl rfl ?_
  refine g_aload_n0 dX6_fault_5 rfl ?_
  refine g_geti dX6_fault_6 rfl fX6_60 hR.1 rfl ?_
  rw [g_u_eq, if_neg (show ¬ (23 : Nat) = 1 by decide)]
  refine g_iret dX6_fault_9 rfl ?_
  exact ⟨_, rfl, rfl, rfl⟩
def cntR (T : gTw) (M : gM) (w : Int) : Int := if w = 0 then T 0 0 else if w = 1 then T 0 1 else if w = 2 then T 0 2 else if w = 3 then T 0 3 else if w = 4 then T 0 4 else if w = 5 then (M.1 300 24).toInt else if w = 6 then (M.1 300 14).toInt else (M.1 406 (w - 7).toNat).toInt
def perT (T : gTw) (p : Nat) (w : Int) : Int := if w = 0 then T 1 p else if w = 1 then T 3 p else if w = 2 then T 4 p else if w = 3 then T 5 p else if w = 4 then (hasT T p : Int) else if w = 5 then woT T (hasT T p) else wtT T (hasT T p)
def thgT (T : gTw) (i : Nat) (w : Int) : Int := if w = 0 then T 7 i else if w = 1 then T 8 i else if w = 2 then holdT T i else if (T 0 5).toNat.testBit i then 1 else 0
set_option maxHeartbeats 1200000 in
theorem r_count {Γ : gW} {M : gM} {T : gTw} (hR : g_Ref Γ) (hO : TOK T) (hS : RS T M) {w : Int32} : Ct Γ yX6_count μX6_count 1 [.ref 300, .int w] M (g_qi (fun z M1 => (¬ (0 ≤ w.toInt ∧ w.toInt ≤ 8) ∧ z.toInt = 0 ∧ M1 = g_u (g_u M 300 1 0) 300 1 1) ∨ ((0 ≤ w.toInt ∧ w.toInt ≤ 8) ∧ M1 = g_u M 300 1 0 ∧ z.toInt = cntR T M w.toInt))) := by
  have hS0 := RS.code (x := 0) hS
  obtain ⟨hC, hW, hA, hDy, hWe⟩ := id hS0
  obtain ⟨o_pe, o_th, o_la, o_wi, o_da, o_we, o_p, o_i⟩ := id hO
  obtain ⟨r_0, r_1, r_2, r_3, r_p, r_i⟩ := id hC
  clear o_p o_i o_la o_wi o_da o_we
  refine g_enter rfl rfl rfl (Nat.le_of_ble_eq_true rfl) ?_
  show G Γ _ _ _ _ 0 [some (.ref 300), some (.int w)] [] M
  refine g_aload_n0 dX6_count_0 rfl ?_
  refine g_iconst (v := 0) dX6_count_1 rfl rfl ?_
  refine g_put dX6_count_2 rfl fX6_128 hR.1 rfl rfl rfl ?_
  refine g_iload_n1 dX6_count_5 rfl ?_
  refine g_iconstI dX6_count_6 rfl rfl (fun w6 h6 => ?_)
  refine g_iconstI dX6_count_7 rfl rfl (fun w7 h7 => ?_)
  refine g_callSi3 dX6_count_8 rfl sX6_131 (r_isIn) (g_rm (by omega)) (Nat.le_of_ble_eq_true rfl) (fun z8 M8 e8 => ?_)
  obtain ⟨e8a, e8, f8⟩ := e8
  subst e8a
  refine g_if_eqI (t := 21) dX6_count_11 (by decide) rfl (fun c11 => ?_) (fun c11 => ?_)
  · -- 11 t
    have hw3 : ¬ (0 ≤ w.toInt ∧ w.toInt ≤ 3) := fun h => by have := f8.mpr (by omega); omega
    clear f8 e8
    refine g_iload_n1 dX6_count_21 rfl ?_
    rcases (show w.toInt = 4 ∨ w.toInt = 5 ∨ w.toInt = 6 ∨ w.toInt = 7 ∨ w.toInt = 8 ∨ (w.toInt < 4 ∨ 8 < w.toInt) by omega) with c22 | c22 | c22 | c22 | c22 | c22
    · -- 22 case 4
      refine g_tableIn (off := 34) (t := 56) dX6_count_22 (by omega) (by omega) (by rw [c22]; rfl) (by decide) ?_
      refine g_aload_n0 dX6_count_56 rfl ?_
      refine g_geti dX6_count_57 rfl fX6_253 hR.1 rfl ?_
      rw [g_u_eq, if_neg (show ¬ (12 : Nat) = 1 by decide)]
      refine g_iret dX6_count_60 rfl ?_
      refine ⟨_, rfl, Or.inr ⟨by omega, rfl, ?_⟩⟩
      rw [g_u_eq, if_neg (by decide)] at hDy
      rw [cntR, if_neg (by omega), if_neg (by omega), if_neg (by omega), if_neg (by omega), if_pos (by omega)]; exact hDy
    · -- 22 case 5
      refine g_tableIn (off := 39) (t := 61) dX6_count_22 (by omega) (by omega) (by rw [c22]; rfl) (by decide) ?_
      refine g_aload_n0 dX6_count_61 rfl ?_
      refine g_geti dX6_count_62 rfl fX6_256 hR.1 rfl ?_
      rw [g_u_eq, if_neg (show ¬ (24 : Nat) = 1 by decide)]
      refine g_iret dX6_count_65 rfl ?_
      refine ⟨_, rfl, Or.inr ⟨by omega, rfl, ?_⟩⟩
      rw [cntR, if_neg (by omega), if_neg (by omega), if_neg (by omega), if_neg (by omega), if_neg (by omega), if_pos (by omega)]
    · -- 22 case 6
      refine g_tableIn (off := 44) (t := 66) dX6_count_22 (by omega) (by omega) (by rw [c22]; rfl) (by decide) ?_
      refine g_aload_n0 dX6_count_66 rfl ?_
      refine g_geti dX6_count_67 rfl fX6_135 hR.1 rfl ?_
      rw [g_u_eq, if_neg (show ¬ (14 : Nat) = 1 by decide)]
      refine g_iret dX6_count_70 rfl ?_
      refine ⟨_, rfl, Or.inr ⟨by omega, rfl, ?_⟩⟩
      rw [cntR, if_neg (by omega), if_neg (by omega), if_neg (by omega), if_neg (by omega), if_neg (by omega), if_neg (by omega), if_pos (by omega)]
    · -- 22 case 7
      refine g_tableIn (off := 49) (t := 71) dX6_count_22 (by omega) (by omega) (by rw [c22]; rfl) (by decide) ?_
      refine g_aload_n0 dX6_count_71 rfl ?_
      refine g_getr dX6_count_72 rfl fX6_38 hR.1 rfl ?_
      refine g_iload_n1 dX6_count_75 rfl ?_
      refine g_bipushI dX6_count_76 rfl rfl (fun w76 h76 => ?_)
      refine g_isubI dX6_count_78 rfl ⟨by omega, by omega⟩ (fun w78 h78 => ?_)
      refine g_ialdI dX6_count_79 rfl (rf_status hR) ⟨by omega, by omega⟩ ?_
      rw [g_u_ne (show 406 ≠ 300 by omega)]
      refine g_iret dX6_count_80 rfl ?_
      refine ⟨_, rfl, Or.inr ⟨by omega, rfl, ?_⟩⟩
      rw [cntR, if_neg (by omega), if_neg (by omega), if_neg (by omega), if_neg (by omega), if_neg (by omega), if_neg (by omega), if_neg (by omega), show w78.toInt.toNat = (w.toInt - 7).toNat by omega]
    · -- 22 case 8
      refine g_tableIn (off := 49) (t := 71) dX6_count_22 (by omega) (by omega) (by rw [c22]; rfl) (by decide) ?_
      refine g_aload_n0 dX6_count_71 rfl ?_
      refine g_getr dX6_count_72 rfl fX6_38 hR.1 rfl ?_
      refine g_iload_n1 dX6_count_75 rfl ?_
      refine g_bipushI dX6_count_76 rfl rfl (fun w76 h76 => ?_)
      refine g_isubI dX6_count_78 rfl ⟨by omega, by omega⟩ (fun w78 h78 => ?_)
      refine g_ialdI dX6_count_79 rfl (rf_status hR) ⟨by omega, by omega⟩ ?_
      rw [g_u_ne (show 406 ≠ 300 by omega)]
      refine g_iret dX6_count_80 rfl ?_
      refine ⟨_, rfl, Or.inr ⟨by omega, rfl, ?_⟩⟩
      rw [cntR, if_neg (by omega), if_neg (by omega), if_neg (by omega), if_neg (by omega), if_neg (by omega), if_neg (by omega), if_neg (by omega), show w78.toInt.toNat = (w.toInt - 7).toNat by omega]
    · -- 22 default
      refine g_tableOut (t := 81) dX6_count_22 (by omega) (by decide) ?_
      refine g_aload_n0 dX6_count_81 rfl ?_
      refine g_iconst (v := 1) dX6_count_82 rfl rfl ?_
      refine g_callVi1 dX6_count_83 rfl vX6_243 hR.1 rfl (r_fail hR) (g_rm (by omega)) (Nat.le_of_ble_eq_true rfl) (fun z83 M83 e83 => ?_)
      obtain ⟨e83a, e83⟩ := e83
      subst e83a
      refine g_iret dX6_count_86 rfl ?_
      exact ⟨_, rfl, Or.inl ⟨by omega, e83, rfl⟩⟩
  · -- 11 f
    have hw3 : 0 ≤ w.toInt ∧ w.toInt ≤ 3 := by have := f8.mp (by omega); omega
    clear f8 e8
    refine g_aload_n0 dX6_count_14 rfl ?_
    refine g_getr dX6_count_15 rfl fX6_25 hR.1 rfl ?_
    refine g_iload_n1 dX6_count_18 rfl ?_
    refine g_ialdI dX6_count_19 rfl (rf_told hR) ⟨by omega, by omega⟩ ?_
    rw [g_u_ne (show 402 ≠ 300 by omega)]
    refine g_iret dX6_count_20 rfl ?_
    refine ⟨_, rfl, Or.inr ⟨by omega, rfl, ?_⟩⟩
    rw [g_u_ne (show 402 ≠ 300 by decide)] at r_0 r_1 r_2 r_3
    rcases (show w.toInt = 0 ∨ w.toInt = 1 ∨ w.toInt = 2 ∨ w.toInt = 3 by omega) with h | h | h | h
    · rw [h, cntR, if_pos rfl]; exact r_0
    · rw [h, cntR, if_neg (by omega), if_pos rfl]; exact r_1
    · rw [h, cntR, if_neg (by omega), if_neg (by omega), if_pos rfl]; exact r_2
    · rw [h, cntR, if_neg (by omega), if_neg (by omega), if_neg (by omega), if_pos rfl]; exact r_3
set_option maxHeartbeats 1200000 in
theorem r_person {Γ : gW} {M : gM} {T : gTw} (hR : g_Ref Γ) (hO : TOK T) (hS : RS T M) {p w : Int32} : Ct Γ yX6_person μX6_person 2 [.ref 300, .int p, .int w] M (g_qi (fun z M1 => (¬ (0 ≤ p.toInt ∧ p.toInt < T 0 0 ∧ 0 ≤ w.toInt ∧ w.toInt ≤ 6) ∧ z.toInt = 0 ∧ M1 = g_u (g_u M 300 1 0) 300 1 1) ∨ ((0 ≤ p.toInt ∧ p.toInt < T 0 0 ∧ 0 ≤ w.toInt ∧ w.toInt ≤ 6) ∧ M1 = g_u M 300 1 0 ∧ z.toInt = perT T p.toInt.toNat w.toInt))) := by
  have hS0 := RS.code (x := 0) hS
  obtain ⟨hC, hW, hA, hDy, hWe⟩ := id hS0
  obtain ⟨o_pe, o_th, o_la, o_wi, o_da, o_we, o_p, o_i⟩ := id hO
  obtain ⟨r_0, r_1, r_2, r_3, r_p, r_i⟩ := id hC
  have ep : ((2 ^ (T 0 1).toNat : Nat) : Int) = (2 : Int) ^ (T 0 1).toNat := by simp
  have hp12 : 2 ^ (T 0 1).toNat ≤ 2 ^ 12 := Nat.pow_le_pow_right (by decide) (by omega)
  have hp12e : (2 : Nat) ^ 12 = 4096 := rfl
  refine g_enter rfl rfl rfl (Nat.le_of_ble_eq_true rfl) ?_
  show G Γ _ _ _ _ 0 [some (.ref 300), some (.int p), some (.int w)] [] M
  refine g_aload_n0 dX6_person_0 rfl ?_
  refine g_iconst (v := 0) dX6_person_1 rfl rfl ?_
  refine g_put dX6_person_2 rfl fX6_128 hR.1 rfl rfl rfl ?_
  refine g_aload_n0 dX6_person_5 rfl ?_
  refine g_iload_n1 dX6_person_6 rfl ?_
  refine g_callVi1 dX6_person_7 rfl vX6_263 hR.1 rfl (r_isPerson hR hO hC) (g_rm (by omega)) (Nat.le_of_ble_eq_true rfl) (fun z7 M7 e7 => ?_)
  obtain ⟨e7a, e7, f7⟩ := e7
  subst e7a
  refine g_if_neI (t := 19) dX6_person_10 (by decide) rfl (fun c10 => ?_) (fun c10 => ?_)
  · -- 10 t
    have hp := f7.mp (by omega)
    clear f7 e7
    obtain ⟨a_s, a_o, a_t, a_h⟩ := hA.1 p.toInt.toNat (by omega)
    rw [g_u_ne (show 407 ≠ 300 by decide)] at a_s a_o a_t
    have epn : ((p.toInt.toNat : Nat) : Int) = p.toInt := by omega
    refine g_iload_n2 dX6_person_19 rfl ?_
    rcases (show w.toInt = 0 ∨ w.toInt = 1 ∨ w.toInt = 2 ∨ w.toInt = 3 ∨ w.toInt = 4 ∨ w.toInt = 5 ∨ w.toInt = 6 ∨ (w.toInt < 0 ∨ 6 < w.toInt) by omega) with c20 | c20 | c20 | c20 | c20 | c20 | c20 | c20
    · -- 20 case 0
      refine g_tableIn (off := 44) (t := 64) dX6_person_20 (by omega) (by omega) (by rw [c20]; rfl) (by decide) ?_
      refine g_aload_n0 dX6_person_64 rfl ?_
      refine g_getr dX6_person_65 rfl fX6_29 hR.1 rfl ?_
      refine g_iload_n1 dX6_person_68 rfl ?_
      refine g_ialdI dX6_person_69 rfl (rf_kind hR) ⟨by omega, by omega⟩ ?_
      rw [g_u_ne (show 403 ≠ 300 by omega)]
      refine g_iret dX6_person_70 rfl ?_
      refine ⟨_, rfl, Or.inr ⟨by omega, rfl, ?_⟩⟩
      rw [perT, if_pos (by omega)]
      have := (r_p p.toInt.toNat (by omega)).1
      rw [g_u_ne (show 403 ≠ 300 by decide)] at this
      exact this
    · -- 20 case 1
      refine g_tableIn (off := 51) (t := 71) dX6_person_20 (by omega) (by omega) (by rw [c20]; rfl) (by decide) ?_
      refine g_aload_n0 dX6_person_71 rfl ?_
      refine g_getr dX6_person_72 rfl fX6_41 hR.1 rfl ?_
      refine g_bipushI dX6_person_75 rfl rfl (fun w75 h75 => ?_)
      refine g_iload_n1 dX6_person_77 rfl ?_
      refine g_iaddI dX6_person_78 rfl ⟨by omega, by omega⟩ (fun w78 h78 => ?_)
      refine g_ialdI dX6_person_79 rfl (rf_now hR) ⟨by omega, by omega⟩ ?_
      rw [g_u_ne (show 407 ≠ 300 by omega)]
      have i79 : w78.toInt.toNat = 12 + p.toInt.toNat := by omega
      rw [i79]
      clear i79
      refine g_iret dX6_person_80 rfl ?_
      refine ⟨_, rfl, Or.inr ⟨by omega, rfl, ?_⟩⟩
      rw [perT, if_neg (by omega), if_pos (by omega)]
      exact a_s
    · -- 20 case 2
      refine g_tableIn (off := 61) (t := 81) dX6_person_20 (by omega) (by omega) (by rw [c20]; rfl) (by decide) ?_
      refine g_aload_n0 dX6_person_81 rfl ?_
      refine g_getr dX6_person_82 rfl fX6_41 hR.1 rfl ?_
      refine g_bipushI dX6_person_85 rfl rfl (fun w85 h85 => ?_)
      refine g_iload_n1 dX6_person_87 rfl ?_
      refine g_iaddI dX6_person_88 rfl ⟨by omega, by omega⟩ (fun w88 h88 => ?_)
      refine g_ialdI dX6_person_89 rfl (rf_now hR) ⟨by omega, by omega⟩ ?_
      rw [g_u_ne (show 407 ≠ 300 by omega)]
      have i89 : w88.toInt.toNat = 18 + p.toInt.toNat := by omega
      rw [i89]
      clear i89
      refine g_iret dX6_person_90 rfl ?_
      refine ⟨_, rfl, Or.inr ⟨by omega, rfl, ?_⟩⟩
      rw [perT, if_neg (by omega), if_neg (by omega), if_pos (by omega)]
      exact a_o
    · -- 20 case 3
      refine g_tableIn (off := 71) (t := 91) dX6_person_20 (by omega) (by omega) (by rw [c20]; rfl) (by decide) ?_
      refine g_aload_n0 dX6_person_91 rfl ?_
      refine g_getr dX6_person_92 rfl fX6_41 hR.1 rfl ?_
      refine g_bipushI dX6_person_95 rfl rfl (fun w95 h95 => ?_)
      refine g_iload_n1 dX6_person_97 rfl ?_
      refine g_iaddI dX6_person_98 rfl ⟨by omega, by omega⟩ (fun w98 h98 => ?_)
      refine g_ialdI dX6_person_99 rfl (rf_now hR) ⟨by omega, by omega⟩ ?_
      rw [g_u_ne (show 407 ≠ 300 by omega)]
      have i99 : w98.toInt.toNat = 24 + p.toInt.toNat := by omega
      rw [i99]
      clear i99
      refine g_iret dX6_person_100 rfl ?_
      refine ⟨_, rfl, Or.inr ⟨by omega, rfl, ?_⟩⟩
      rw [perT, if_neg (by omega), if_neg (by omega), if_neg (by omega), if_pos (by omega)]
      exact a_t
    · -- 20 case 4
      refine g_tableIn (off := 81) (t := 101) dX6_person_20 (by omega) (by omega) (by rw [c20]; rfl) (by decide) ?_
      refine g_aload_n0 dX6_person_101 rfl ?_
      refine g_aload_n0 dX6_person_102 rfl ?_
      refine g_getr dX6_person_103 rfl fX6_41 hR.1 rfl ?_
      refine g_iload_n1 dX6_person_106 rfl ?_
      refine g_callVi2 dX6_person_107 rfl vX6_266 hR.1 rfl (r_hasOf hR hO hC (rf_now hR)) (g_rm (by omega)) (Nat.le_of_ble_eq_true rfl) (fun z107 M107 e107 => ?_)
      obtain ⟨e107a, e107⟩ := e107
      subst e107a
      rw [← epn, RW.has hA (by omega)] at e107
      have hh2 : hasT T p.toInt.toNat < 2 ^ (T 0 1).toNat := by rw [← RW.has hA (p := p.toInt.toNat) (by omega)]; exact gat_lt _ _
      have ez107 : z107.toInt = (hasT T p.toInt.toNat : Int) := by rw [i_bn (by omega), e107]
      have en107 : z107.toInt.toNat = hasT T p.toInt.toNat := by omega
      refine g_iret dX6_person_110 rfl ?_
      refine ⟨_, rfl, Or.inr ⟨by omega, rfl, ?_⟩⟩
      rw [perT, if_neg (by omega), if_neg (by omega), if_neg (by omega), if_neg (by omega), if_pos (by omega)]
      exact ez107
    · -- 20 case 5
      refine g_tableIn (off := 91) (t := 111) dX6_person_20 (by omega) (by omega) (by rw [c20]; rfl) (by decide) ?_
      refine g_aload_n0 dX6_person_111 rfl ?_
      refine g_aload_n0 dX6_person_112 rfl ?_
      refine g_aload_n0 dX6_person_113 rfl ?_
      refine g_getr dX6_person_114 rfl fX6_41 hR.1 rfl ?_
      refine g_iload_n1 dX6_person_117 rfl ?_
      refine g_callVi2 dX6_person_118 rfl vX6_266 hR.1 rfl (r_hasOf hR hO hC (rf_now hR)) (g_rm (by omega)) (Nat.le_of_ble_eq_true rfl) (fun z118 M118 e118 => ?_)
      obtain ⟨e118a, e118⟩ := e118
      subst e118a
      rw [← epn, RW.has hA (by omega)] at e118
      have hh2 : hasT T p.toInt.toNat < 2 ^ (T 0 1).toNat := by rw [← RW.has hA (p := p.toInt.toNat) (by omega)]; exact gat_lt _ _
      have ez118 : z118.toInt = (hasT T p.toInt.toNat : Int) := by rw [i_bn (by omega), e118]
      have en118 : z118.toInt.toNat = hasT T p.toInt.toNat := by omega
      refine g_callVi1 dX6_person_121 rfl vX6_270 hR.1 rfl (r_worthOf hR hO hC (by omega)) (g_rm (by omega)) (Nat.le_of_ble_eq_true rfl) (fun z121 M121 e121 => ?_)
      obtain ⟨e121a, e121⟩ := e121
      subst e121a
      refine g_iret dX6_person_124 rfl ?_
      refine ⟨_, rfl, Or.inr ⟨by omega, rfl, ?_⟩⟩
      rw [perT, if_neg (by omega), if_neg (by omega), if_neg (by omega), if_neg (by omega), if_neg (by omega), if_pos (by omega)]
      rw [e121, en118]; rfl
    · -- 20 case 6
      refine g_tableIn (off := 105) (t := 125) dX6_person_20 (by omega) (by omega) (by rw [c20]; rfl) (by decide) ?_
      refine g_aload_n0 dX6_person_125 rfl ?_
      refine g_aload_n0 dX6_person_126 rfl ?_
      refine g_aload_n0 dX6_person_127 rfl ?_
      refine g_getr dX6_person_128 rfl fX6_41 hR.1 rfl ?_
      refine g_iload_n1 dX6_person_131 rfl ?_
      refine g_callVi2 dX6_person_132 rfl vX6_266 hR.1 rfl (r_hasOf hR hO hC (rf_now hR)) (g_rm (by omega)) (Nat.le_of_ble_eq_true rfl) (fun z132 M132 e132 => ?_)
      obtain ⟨e132a, e132⟩ := e132
      subst e132a
      rw [← epn, RW.has hA (by omega)] at e132
      have hh2 : hasT T p.toInt.toNat < 2 ^ (T 0 1).toNat := by rw [← RW.has hA (p := p.toInt.toNat) (by omega)]; exact gat_lt _ _
      have ez132 : z132.toInt = (hasT T p.toInt.toNat : Int) := by rw [i_bn (by omega), e132]
      have en132 : z132.toInt.toNat = hasT T p.toInt.toNat := by omega
      refine g_callVi1 dX6_person_135 rfl vX6_273 hR.1 rfl (r_weightOf hR hO hC hW (by omega)) (g_rm (by omega)) (Nat.le_of_ble_eq_true rfl) (fun z135 M135 e135 => ?_)
      obtain ⟨e135a, e135⟩ := e135
      subst e135a
      refine g_iret dX6_person_138 rfl ?_
      refine ⟨_, rfl, Or.inr ⟨by omega, rfl, ?_⟩⟩
      rw [perT, if_neg (by omega), if_neg (by omega), if_neg (by omega), if_neg (by omega), if_neg (by omega), if_neg (by omega), e135, en132]; exact (wsum_ext hh2 (by omega)).symm
    · -- 20 default
      refine g_tableOut (t := 139) dX6_person_20 (by omega) (by decide) ?_
      refine g_aload_n0 dX6_person_139 rfl ?_
      refine g_iconst (v := 1) dX6_person_140 rfl rfl ?_
      refine g_callVi1 dX6_person_141 rfl vX6_243 hR.1 rfl (r_fail hR) (g_rm (by omega)) (Nat.le_of_ble_eq_true rfl) (fun z141 M141 e141 => ?_)
      obtain ⟨e141a, e141⟩ := e141
      subst e141a
      refine g_iret dX6_person_144 rfl ?_
      exact ⟨_, rfl, Or.inl ⟨by omega, e141, rfl⟩⟩
  · -- 10 f
    have hp : ¬ (0 ≤ p.toInt ∧ p.toInt < T 0 0) := fun h => by have := f7.mpr h; omega
    clear f7 e7
    refine g_aload_n0 dX6_person_13 rfl ?_
    refine g_iconst (v := 1) dX6_person_14 rfl rfl ?_
    refine g_callVi1 dX6_person_15 rfl vX6_243 hR.1 rfl (r_fail hR) (g_rm (by omega)) (Nat.le_of_ble_eq_true rfl) (fun z15 M15 e15 => ?_)
    obtain ⟨e15a, e15⟩ := e15
    subst e15a
    refine g_iret dX6_person_18 rfl ?_
    exact ⟨_, rfl, Or.inl ⟨by omega, e15, rfl⟩⟩
set_option maxHeartbeats 1200000 in
theorem r_thing {Γ : gW} {M : gM} {T : gTw} (hR : g_Ref Γ) (hO : TOK T) (hS : RS T M) {p w : Int32} : Ct Γ yX6_thing μX6_thing 2 [.ref 300, .int p, .int w] M (g_qi (fun z M1 => (¬ (0 ≤ p.toInt ∧ p.toInt < T 0 1 ∧ 0 ≤ w.toInt ∧ w.toInt ≤ 3) ∧ z.toInt = 0 ∧ M1 = g_u (g_u M 300 1 0) 300 1 1) ∨ ((0 ≤ p.toInt ∧ p.toInt < T 0 1 ∧ 0 ≤ w.toInt ∧ w.toInt ≤ 3) ∧ M1 = g_u M 300 1 0 ∧ z.toInt = thgT T p.toInt.toNat w.toInt))) := by
  have hS0 := RS.code (x := 0) hS
  obtain ⟨hC, hW, hA, hDy, hWe⟩ := id hS0
  obtain ⟨o_pe, o_th, o_la, o_wi, o_da, o_we, o_p, o_i⟩ := id hO
  obtain ⟨r_0, r_1, r_2, r_3, r_p, r_i⟩ := id hC
  clear o_p
  refine g_enter rfl rfl rfl (Nat.le_of_ble_eq_true rfl) ?_
  show G Γ _ _ _ _ 0 [some (.ref 300), some (.int p), some (.int w)] [] M
  refine g_aload_n0 dX6_thing_0 rfl ?_
  refine g_iconst (v := 0) dX6_thing_1 rfl rfl ?_
  refine g_put dX6_thing_2 rfl fX6_128 hR.1 rfl rfl rfl ?_
  refine g_aload_n0 dX6_thing_5 rfl ?_
  refine g_iload_n1 dX6_thing_6 rfl ?_
  refine g_callVi1 dX6_thing_7 rfl vX6_276 hR.1 rfl (r_isThing hR hO hC) (g_rm (by omega)) (Nat.le_of_ble_eq_true rfl) (fun z7 M7 e7 => ?_)
  obtain ⟨e7a, e7, f7⟩ := e7
  subst e7a
  refine g_if_neI (t := 19) dX6_thing_10 (by decide) rfl (fun c10 => ?_) (fun c10 => ?_)
  · -- 10 t
    have hp := f7.mp (by omega)
    clear f7 e7
    have q7 := hW p.toInt.toNat (by omega)
    have q8 := r_i p.toInt.toNat (by omega)
    have qh := RW.hold hA (by omega) (i := p.toInt.toNat) (by omega)
    have qw := hWe p.toInt.toNat (by omega)
    rw [g_u_ne (show 409 ≠ 300 by decide)] at q7
    rw [g_u_ne (show 405 ≠ 300 by decide)] at q8
    rw [g_u_ne (show 407 ≠ 300 by decide)] at qh
    rw [g_u_ne (show 411 ≠ 300 by decide)] at qw
    refine g_iload_n2 dX6_thing_19 rfl ?_
    refine g_if_neI (t := 32) dX6_thing_20 (by decide) rfl (fun c20 => ?_) (fun c20 => ?_)
    · -- 20 t
      refine g_iload_n2 dX6_thing_32 rfl ?_
      refine g_iconstI dX6_thing_33 rfl rfl (fun w33 h33 => ?_)
      refine g_icmp_neI (t := 46) dX6_thing_34 (by decide) rfl (fun c34 => ?_) (fun c34 => ?_)
      · -- 34 t
        refine g_iload_n2 dX6_thing_46 rfl ?_
        refine g_iconstI dX6_thing_47 rfl rfl (fun w47 h47 => ?_)
        refine g_icmp_neI (t := 60) dX6_thing_48 (by decide) rfl (fun c48 => ?_) (fun c48 => ?_)
        · -- 48 t
          refine g_iload_n2 dX6_thing_60 rfl ?_
          refine g_iconstI dX6_thing_61 rfl rfl (fun w61 h61 => ?_)
          refine g_icmp_neI (t := 82) dX6_thing_62 (by decide) rfl (fun c62 => ?_) (fun c62 => ?_)
          · -- 62 t
            refine g_aload_n0 dX6_thing_82 rfl ?_
            refine g_iconst (v := 1) dX6_thing_83 rfl rfl ?_
            refine g_callVi1 dX6_thing_84 rfl vX6_243 hR.1 rfl (r_fail hR) (g_rm (by omega)) (Nat.le_of_ble_eq_true rfl) (fun z84 M84 e84 => ?_)
            obtain ⟨e84a, e84⟩ := e84
            subst e84a
            refine g_iret dX6_thing_87 rfl ?_
            first
              | (have hz := e84; exact ⟨_, rfl, Or.inl ⟨by omega, hz, rfl⟩⟩)
              | (have hz := h74; refine ⟨_, rfl, Or.inr ⟨by omega, rfl, ?_⟩⟩; rw [thgT, if_neg (by omega), if_neg (by omega), if_neg (by omega), qw]; omega)
              | (have hz := h78; refine ⟨_, rfl, Or.inr ⟨by omega, rfl, ?_⟩⟩; rw [thgT, if_neg (by omega), if_neg (by omega), if_neg (by omega), qw]; omega)
              | (have hz := c48; refine ⟨_, rfl, Or.inr ⟨by omega, rfl, ?_⟩⟩; rw [thgT, if_neg (by omega), if_neg (by omega), if_pos (by omega), qh])
              | (have hz := c34; refine ⟨_, rfl, Or.inr ⟨by omega, rfl, ?_⟩⟩; rw [thgT, if_neg (by omega), if_pos (by omega), ← q8])
              | (refine ⟨_, rfl, Or.inr ⟨by omega, rfl, ?_⟩⟩; rw [thgT, if_pos (by omega), ← q7])
          · -- 62 f
            refine g_aload_n0 dX6_thing_65 rfl ?_
            refine g_getr dX6_thing_66 rfl fX6_53 hR.1 rfl ?_
            refine g_iload_n1 dX6_thing_69 rfl ?_
            refine g_zaldI dX6_thing_70 rfl (rf_isWet hR) ⟨by omega, by omega⟩ ?_
            rw [g_u_ne (show 411 ≠ 300 by omega)]
            refine g_if_eqI (t := 78) dX6_thing_71 (by decide) rfl (fun c71 => ?_) (fun c71 => ?_)
            · -- 71 t
              have qw2 := qw
              rw [show (M.1 411 p.toInt.toNat).toInt = 0 by omega] at qw2
              clear qw
              have qw := qw2.symm
              refine g_iconstI dX6_thing_78 rfl rfl (fun w78 h78 => ?_)
              refine g_goto (t := 87) dX6_thing_79 (by decide) ?_
              refine g_iret dX6_thing_87 rfl ?_
              first
                | (have hz := e84; exact ⟨_, rfl, Or.inl ⟨by omega, hz, rfl⟩⟩)
                | (have hz := h74; refine ⟨_, rfl, Or.inr ⟨by omega, rfl, ?_⟩⟩; rw [thgT, if_neg (by omega), if_neg (by omega), if_neg (by omega), qw]; omega)
                | (have hz := h78; refine ⟨_, rfl, Or.inr ⟨by omega, rfl, ?_⟩⟩; rw [thgT, if_neg (by omega), if_neg (by omega), if_neg (by omega), qw]; omega)
                | (have hz := c48; refine ⟨_, rfl, Or.inr ⟨by omega, rfl, ?_⟩⟩; rw [thgT, if_neg (by omega), if_neg (by omega), if_pos (by omega), qh])
                | (have hz := c34; refine ⟨_, rfl, Or.inr ⟨by omega, rfl, ?_⟩⟩; rw [thgT, if_neg (by omega), if_pos (by omega), ← q8])
                | (refine ⟨_, rfl, Or.inr ⟨by omega, rfl, ?_⟩⟩; rw [thgT, if_pos (by omega), ← q7])
            · -- 71 f
              have qw2 : (if (T 0 5).toNat.testBit p.toInt.toNat = true then (1 : Int) else 0) = 1 := by
                split at qw
                · rename_i hb; rw [if_pos hb]
                · omega
              clear qw
              have qw := qw2
              refine g_iconstI dX6_thing_74 rfl rfl (fun w74 h74 => ?_)
              refine g_goto (t := 87) dX6_thing_75 (by decide) ?_
              refine g_iret dX6_thing_87 rfl ?_
              first
                | (have hz := e84; exact ⟨_, rfl, Or.inl ⟨by omega, hz, rfl⟩⟩)
                | (have hz := h74; refine ⟨_, rfl, Or.inr ⟨by omega, rfl, ?_⟩⟩; rw [thgT, if_neg (by omega), if_neg (by omega), if_neg (by omega), qw]; omega)
                | (have hz := h78; refine ⟨_, rfl, Or.inr ⟨by omega, rfl, ?_⟩⟩; rw [thgT, if_neg (by omega), if_neg (by omega), if_neg (by omega), qw]; omega)
                | (have hz := c48; refine ⟨_, rfl, Or.inr ⟨by omega, rfl, ?_⟩⟩; rw [thgT, if_neg (by omega), if_neg (by omega), if_pos (by omega), qh])
                | (have hz := c34; refine ⟨_, rfl, Or.inr ⟨by omega, rfl, ?_⟩⟩; rw [thgT, if_neg (by omega), if_pos (by omega), ← q8])
                | (refine ⟨_, rfl, Or.inr ⟨by omega, rfl, ?_⟩⟩; rw [thgT, if_pos (by omega), ← q7])
        · -- 48 f
          refine g_aload_n0 dX6_thing_51 rfl ?_
          refine g_getr dX6_thing_52 rfl fX6_41 hR.1 rfl ?_
          refine g_iload_n1 dX6_thing_55 rfl ?_
          refine g_ialdI dX6_thing_56 rfl (rf_now hR) ⟨by omega, by omega⟩ ?_
          rw [g_u_ne (show 407 ≠ 300 by omega)]
          refine g_goto (t := 87) dX6_thing_57 (by decide) ?_
          refine g_iret dX6_thing_87 rfl ?_
          first
            | (have hz := e84; exact ⟨_, rfl, Or.inl ⟨by omega, hz, rfl⟩⟩)
            | (have hz := h74; refine ⟨_, rfl, Or.inr ⟨by omega, rfl, ?_⟩⟩; rw [thgT, if_neg (by omega), if_neg (by omega), if_neg (by omega), qw]; omega)
            | (have hz := h78; refine ⟨_, rfl, Or.inr ⟨by omega, rfl, ?_⟩⟩; rw [thgT, if_neg (by omega), if_neg (by omega), if_neg (by omega), qw]; omega)
            | (have hz := c48; refine ⟨_, rfl, Or.inr ⟨by omega, rfl, ?_⟩⟩; rw [thgT, if_neg (by omega), if_neg (by omega), if_pos (by omega), qh])
            | (have hz := c34; refine ⟨_, rfl, Or.inr ⟨by omega, rfl, ?_⟩⟩; rw [thgT, if_neg (by omega), if_pos (by omega), ← q8])
            | (refine ⟨_, rfl, Or.inr ⟨by omega, rfl, ?_⟩⟩; rw [thgT, if_pos (by omega), ← q7])
      · -- 34 f
        refine g_aload_n0 dX6_thing_37 rfl ?_
        refine g_getr dX6_thing_38 rfl fX6_35 hR.1 rfl ?_
        refine g_iload_n1 dX6_thing_41 rfl ?_
        refine g_ialdI dX6_thing_42 rfl (rf_worth hR) ⟨by omega, by omega⟩ ?_
        rw [g_u_ne (show 405 ≠ 300 by omega)]
        refine g_goto (t := 87) dX6_thing_43 (by decide) ?_
        refine g_iret dX6_thing_87 rfl ?_
        first
          | (have hz := e84; exact ⟨_, rfl, Or.inl ⟨by omega, hz, rfl⟩⟩)
          | (have hz := h74; refine ⟨_, rfl, Or.inr ⟨by omega, rfl, ?_⟩⟩; rw [thgT, if_neg (by omega), if_neg (by omega), if_neg (by omega), qw]; omega)
          | (have hz := h78; refine ⟨_, rfl, Or.inr ⟨by omega, rfl, ?_⟩⟩; rw [thgT, if_neg (by omega), if_neg (by omega), if_neg (by omega), qw]; omega)
          | (have hz := c48; refine ⟨_, rfl, Or.inr ⟨by omega, rfl, ?_⟩⟩; rw [thgT, if_neg (by omega), if_neg (by omega), if_pos (by omega), qh])
          | (have hz := c34; refine ⟨_, rfl, Or.inr ⟨by omega, rfl, ?_⟩⟩; rw [thgT, if_neg (by omega), if_pos (by omega), ← q8])
          | (refine ⟨_, rfl, Or.inr ⟨by omega, rfl, ?_⟩⟩; rw [thgT, if_pos (by omega), ← q7])
    · -- 20 f
      refine g_aload_n0 dX6_thing_23 rfl ?_
      refine g_getr dX6_thing_24 rfl fX6_47 hR.1 rfl ?_
      refine g_iload_n1 dX6_thing_27 rfl ?_
      refine g_ialdI dX6_thing_28 rfl (rf_weight hR) ⟨by omega, by omega⟩ ?_
      rw [g_u_ne (show 409 ≠ 300 by omega)]
      refine g_goto (t := 87) dX6_thing_29 (by decide) ?_
      refine g_iret dX6_thing_87 rfl ?_
      first
        | (have hz := e84; exact ⟨_, rfl, Or.inl ⟨by omega, hz, rfl⟩⟩)
        | (have hz := h74; refine ⟨_, rfl, Or.inr ⟨by omega, rfl, ?_⟩⟩; rw [thgT, if_neg (by omega), if_neg (by omega), if_neg (by omega), qw]; omega)
        | (have hz := h78; refine ⟨_, rfl, Or.inr ⟨by omega, rfl, ?_⟩⟩; rw [thgT, if_neg (by omega), if_neg (by omega), if_neg (by omega), qw]; omega)
        | (have hz := c48; refine ⟨_, rfl, Or.inr ⟨by omega, rfl, ?_⟩⟩; rw [thgT, if_neg (by omega), if_neg (by omega), if_pos (by omega), qh])
        | (have hz := c34; refine ⟨_, rfl, Or.inr ⟨by omega, rfl, ?_⟩⟩; rw [thgT, if_neg (by omega), if_pos (by omega), ← q8])
        | (refine ⟨_, rfl, Or.inr ⟨by omega, rfl, ?_⟩⟩; rw [thgT, if_pos (by omega), ← q7])
  · -- 10 f
    have hp : ¬ (0 ≤ p.toInt ∧ p.toInt < T 0 1) := fun h => by have := f7.mpr h; omega
    clear f7 e7
    refine g_aload_n0 dX6_thing_13 rfl ?_
    refine g_iconst (v := 1) dX6_thing_14 rfl rfl ?_
    refine g_callVi1 dX6_thing_15 rfl vX6_243 hR.1 rfl (r_fail hR) (g_rm (by omega)) (Nat.le_of_ble_eq_true rfl) (fun z15 M15 e15 => ?_)
    obtain ⟨e15a, e15⟩ := e15
    subst e15a
    refine g_iret dX6_thing_18 rfl ?_
    exact ⟨_, rfl, Or.inl ⟨by omega, e15, rfl⟩⟩
