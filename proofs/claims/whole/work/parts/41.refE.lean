/-- the reference holds the town T -/
def RS (T : gTw) (M : gM) : Prop := CR T M ∧ WR T M ∧ RW T (M.1 407) ∧ (M.1 300 12).toInt = T 0 4 ∧ ∀ i : Nat, (i : Int) < T 0 1 → (M.1 411 i).toInt = if (T 0 5).toNat.testBit i then 1 else 0
theorem RS.moved {T : gTw} {M M' : gM} (h : RS T M) (h2 : M'.1 402 = M.1 402) (h3 : M'.1 403 = M.1 403) (h4 : M'.1 404 = M.1 404) (h5 : M'.1 405 = M.1 405) (h7 : M'.1 407 = M.1 407) (h9 : M'.1 409 = M.1 409) (h11 : M'.1 411 = M.1 411) (h12 : M'.1 300 12 = M.1 300 12) : RS T M' := by
  obtain ⟨a, b, c, d, e⟩ := h
  refine ⟨?_, ?_, by rw [h7]; exact c, by rw [h12]; exact d, by rw [h11]; exact e⟩
  · unfold CR at a ⊢; rw [h2, h3, h4, h5]; exact a
  · unfold WR at b ⊢; rw [h9]; exact b
theorem RS.code {T : gTw} {M : gM} {x : Int32} (h : RS T M) : RS T (g_u M 300 1 x) := RS.moved h (g_u_ne (by decide)) (g_u_ne (by decide)) (g_u_ne (by decide)) (g_u_ne (by decide)) (g_u_ne (by decide)) (g_u_ne (by decide)) (g_u_ne (by decide)) (by rw [g_u_eq, if_neg (by decide)])
set_option maxHeartbeats 1200000 in
theorem r_troubleOf {Γ : gW} {M : gM} {T : gTw} (hR : g_Ref Γ) (hO : TOK T) (hS : RS T M) {p s n k : Int32} : Ct Γ yX6_troubleOf μX6_troubleOf 2 [.ref 300, .int p, .int s, .int n, .int k] M (g_qi (fun z M1 => M1 = M ∧ z.toInt = troubT T p.toInt s.toInt n.toInt k.toInt)) := by
  obtain ⟨hC, hW, hA, hDy, hWe⟩ := id hS
  obtain ⟨o_pe, o_th, o_la, o_wi, o_da, o_we, o_p, o_i⟩ := id hO
  obtain ⟨r_0, r_1, r_2, r_3, r_p, r_i⟩ := id hC
  clear o_la o_da o_we hDy hWe r_2
  have ep : ((2 ^ (T 0 1).toNat : Nat) : Int) = (2 : Int) ^ (T 0 1).toNat := by simp
  have hp12 : 2 ^ (T 0 1).toNat ≤ 2 ^ 12 := Nat.pow_le_pow_right (by decide) (by omega)
  have hp12e : (2 : Nat) ^ 12 = 4096 := rfl
  refine g_enter rfl rfl rfl (Nat.le_of_ble_eq_true rfl) ?_
  show G Γ _ _ _ _ 0 [some (.ref 300), some (.int p), some (.int s), some (.int n), some (.int k), none] [] M
  refine g_aload_n0 dX6_troubleOf_0 rfl ?_
  refine g_iload_n1 dX6_troubleOf_1 rfl ?_
  refine g_callVi1 dX6_troubleOf_2 rfl vX6_263 hR.1 rfl (r_isPerson hR hO hC) (g_rm (by omega)) (Nat.le_of_ble_eq_true rfl) (fun z2 M2 e2 => ?_)
  obtain ⟨rfl, e2, f2⟩ := e2
  refine g_if_eqI (t := 37) dX6_troubleOf_5 (by decide) rfl (fun c5 => ?_) (fun c5 => ?_)
  · -- 5 t
    have hp1 : ¬ (0 ≤ p.toInt ∧ p.toInt < T 0 0) := fun h => by have := f2.mpr h; omega
    clear f2 e2
    refine g_iconstI dX6_troubleOf_37 rfl rfl (fun w37 h37 => ?_)
    refine g_iret dX6_troubleOf_38 rfl ?_
    refine ⟨_, rfl, rfl, ?_⟩
    rw [troubT]
    by_cases hx : p.toInt < 0 ∨ T 0 0 ≤ p.toInt ∨ k.toInt < 0 ∨ T 0 0 ≤ k.toInt
    · rw [if_pos hx, h37]
    · rw [if_neg hx, if_pos (by omega), h37]
  · -- 5 f
    have hp1 := f2.mp (by omega)
    clear f2 e2
    refine g_aload_n0 dX6_troubleOf_8 rfl ?_
    refine g_iload4 dX6_troubleOf_9 rfl ?_
    refine g_callVi1 dX6_troubleOf_11 rfl vX6_263 hR.1 rfl (r_isPerson hR hO hC) (g_rm (by omega)) (Nat.le_of_ble_eq_true rfl) (fun z11 M11 e11 => ?_)
    obtain ⟨rfl, e11, f11⟩ := e11
    refine g_if_eqI (t := 37) dX6_troubleOf_14 (by decide) rfl (fun c14 => ?_) (fun c14 => ?_)
    · -- 14 t
      have hp1 : ¬ (0 ≤ k.toInt ∧ k.toInt < T 0 0) := fun h => by have := f11.mpr h; omega
      clear f11 e11
      refine g_iconstI dX6_troubleOf_37 rfl rfl (fun w37 h37 => ?_)
      refine g_iret dX6_troubleOf_38 rfl ?_
      refine ⟨_, rfl, rfl, ?_⟩
      rw [troubT]
      by_cases hx : p.toInt < 0 ∨ T 0 0 ≤ p.toInt ∨ k.toInt < 0 ∨ T 0 0 ≤ k.toInt
      · rw [if_pos hx, h37]
      · rw [if_neg hx, if_pos (by omega), h37]
    · -- 14 f
      have hp2 := f11.mp (by omega)
      clear f11 e11
      refine g_iload_n2 dX6_troubleOf_17 rfl ?_
      refine g_if_ltI (t := 37) dX6_troubleOf_18 (by decide) rfl (fun c18 => ?_) (fun c18 => ?_)
      · -- 18 t
        refine g_iconstI dX6_troubleOf_37 rfl rfl (fun w37 h37 => ?_)
        refine g_iret dX6_troubleOf_38 rfl ?_
        refine ⟨_, rfl, rfl, ?_⟩
        rw [troubT]
        by_cases hx : p.toInt < 0 ∨ T 0 0 ≤ p.toInt ∨ k.toInt < 0 ∨ T 0 0 ≤ k.toInt
        · rw [if_pos hx, h37]
        · rw [if_neg hx, if_pos (by omega), h37]
      · -- 18 f
        refine g_iload_n2 dX6_troubleOf_21 rfl ?_
        refine g_iconstI dX6_troubleOf_22 rfl rfl (fun w22 h22 => ?_)
        refine g_aload_n0 dX6_troubleOf_23 rfl ?_
        refine g_getr dX6_troubleOf_24 rfl fX6_25 hR.1 rfl ?_
        refine g_iconstI dX6_troubleOf_27 rfl rfl (fun w27 h27 => ?_)
        refine g_ialdI dX6_troubleOf_28 rfl (rf_told hR) ⟨by omega, by omega⟩ ?_
        have et28 : w27.toInt.toNat = 1 := by omega
        rw [et28]
        clear et28
        refine g_ishlB dX6_troubleOf_29 rfl ⟨by omega, by omega⟩ (fun w29 h29 => ?_)
        have hpw : 2 ^ (M11.1 402 1).toInt.toNat < 4294967296 := by rw [r_1]; omega
        rw [bn_lit (n := 1) h22, Nat.shiftLeft_eq, Nat.one_mul, Nat.mod_eq_of_lt hpw, r_1] at h29
        have e29 : w29.toInt = (2 : Int) ^ (T 0 1).toNat := by rw [i_bn (by omega), h29, ep]
        refine g_icmp_geI (t := 37) dX6_troubleOf_30 (by decide) rfl (fun c30 => ?_) (fun c30 => ?_)
        · -- 30 t
          refine g_iconstI dX6_troubleOf_37 rfl rfl (fun w37 h37 => ?_)
          refine g_iret dX6_troubleOf_38 rfl ?_
          refine ⟨_, rfl, rfl, ?_⟩
          rw [troubT]
          by_cases hx : p.toInt < 0 ∨ T 0 0 ≤ p.toInt ∨ k.toInt < 0 ∨ T 0 0 ≤ k.toInt
          · rw [if_pos hx, h37]
          · rw [if_neg hx, if_pos (by omega), h37]
        · -- 30 f
          refine g_iload_n3 dX6_troubleOf_33 rfl ?_
          refine g_if_geI (t := 39) dX6_troubleOf_34 (by decide) rfl (fun c34 => ?_) (fun c34 => ?_)
          · -- 34 t
            obtain ⟨-, -, op3, op4, op5, -, -⟩ := o_p p.toInt.toNat (by omega)
            obtain ⟨a_s, a_o, a_t, a_h⟩ := hA.1 p.toInt.toNat (by omega)
            have epn : ((p.toInt.toNat : Nat) : Int) = p.toInt := by omega
            have hsn : s.toInt.toNat < 2 ^ (T 0 1).toNat := by omega
            have hwt : wsum (T 7) (T 0 1).toNat s.toInt.toNat = wtT T s.toInt.toNat := (wsum_ext hsn (by omega)).symm
            have hwr := wtT_rng (s := s.toInt.toNat) hO
            refine g_aload_n0 dX6_troubleOf_39 rfl ?_
            refine g_getr dX6_troubleOf_40 rfl fX6_41 hR.1 rfl ?_
            refine g_bipushI dX6_troubleOf_43 rfl rfl (fun w43 h43 => ?_)
            refine g_iload_n1 dX6_troubleOf_45 rfl ?_
            refine g_iaddI dX6_troubleOf_46 rfl ⟨by omega, by omega⟩ (fun w46 h46 => ?_)
            refine g_ialdI dX6_troubleOf_47 rfl (rf_now hR) ⟨by omega, by omega⟩ ?_
            have i47 : w46.toInt.toNat = 18 + p.toInt.toNat := by omega
            rw [i47]
            clear i47
            refine g_if_neI (t := 53) dX6_troubleOf_48 (by decide) rfl (fun c48 => ?_) (fun c48 => ?_)
            · -- 48 t
              refine g_iload_n2 dX6_troubleOf_53 rfl ?_
              refine g_aload_n0 dX6_troubleOf_54 rfl ?_
              refine g_aload_n0 dX6_troubleOf_55 rfl ?_
              refine g_getr dX6_troubleOf_56 rfl fX6_41 hR.1 rfl ?_
              refine g_iload_n1 dX6_troubleOf_59 rfl ?_
              refine g_callVi2 dX6_troubleOf_60 rfl vX6_266 hR.1 rfl (r_hasOf hR hO hC (rf_now hR)) (g_rm (by omega)) (Nat.le_of_ble_eq_true rfl) (fun z60 M60 e60 => ?_)
              obtain ⟨rfl, e60⟩ := e60
              rw [← epn, RW.has hA (by omega)] at e60
              refine g_iconstI dX6_troubleOf_63 rfl rfl (fun w63 h63 => ?_)
              refine g_ixorB dX6_troubleOf_64 rfl  (fun w64 h64 => ?_)
              refine g_iandB dX6_troubleOf_65 rfl  (fun w65 h65 => ?_)
              have esb := bn_toNat (x := s) (by omega)
              rw [h64, bn_neg1 h63, and_not (bn_lt _), e60, esb] at h65
              have hndl := nd_le s.toInt.toNat (hasT T p.toInt.toNat)
              have e65 : w65.toInt = bn w65 := i_bn (by omega)
              refine g_if_neI (t := 82) dX6_troubleOf_66 (by decide) rfl (fun c66 => ?_) (fun c66 => ?_)
              · -- 66 t
                refine g_iconstI dX6_troubleOf_82 rfl rfl (fun w82 h82 => ?_)
                refine g_iret dX6_troubleOf_83 rfl ?_
                refine ⟨_, rfl, rfl, ?_⟩
                rw [troubT, if_neg (by omega), if_neg (by omega), if_neg (by omega)]
                rw [← h65, if_pos (by omega), h82]
              · -- 66 f
                refine g_iload_n3 dX6_troubleOf_69 rfl ?_
                refine g_aload_n0 dX6_troubleOf_70 rfl ?_
                refine g_getr dX6_troubleOf_71 rfl fX6_41 hR.1 rfl ?_
                refine g_bipushI dX6_troubleOf_74 rfl rfl (fun w74 h74 => ?_)
                refine g_iload_n1 dX6_troubleOf_76 rfl ?_
                refine g_iaddI dX6_troubleOf_77 rfl ⟨by omega, by omega⟩ (fun w77 h77 => ?_)
                refine g_ialdI dX6_troubleOf_78 rfl (rf_now hR) ⟨by omega, by omega⟩ ?_
                have i78 : w77.toInt.toNat = 12 + p.toInt.toNat := by omega
                rw [i78]
                clear i78
                refine g_icmp_leI (t := 84) dX6_troubleOf_79 (by decide) rfl (fun c79 => ?_) (fun c79 => ?_)
                · -- 79 t
                  refine g_iload4 dX6_troubleOf_84 rfl ?_
                  refine g_iload_n1 dX6_troubleOf_86 rfl ?_
                  refine g_icmp_eqI (t := 117) dX6_troubleOf_87 (by decide) rfl (fun c87 => ?_) (fun c87 => ?_)
                  · -- 87 t
                    refine g_iconstI dX6_troubleOf_117 rfl rfl (fun w117 h117 => ?_)
                    refine g_iret dX6_troubleOf_118 rfl ?_
                    refine ⟨_, rfl, rfl, ?_⟩
                    rw [troubT, if_neg (by omega), if_neg (by omega), if_neg (by omega)]
                    rw [← h65, if_neg (by omega), if_pos (by omega), h117]
                  · -- 87 f
                    refine g_aload_n0 dX6_troubleOf_90 rfl ?_
                    refine g_getr dX6_troubleOf_91 rfl fX6_41 hR.1 rfl ?_
                    refine g_bipushI dX6_troubleOf_94 rfl rfl (fun w94 h94 => ?_)
                    refine g_iload_n1 dX6_troubleOf_96 rfl ?_
                    refine g_iaddI dX6_troubleOf_97 rfl ⟨by omega, by omega⟩ (fun w97 h97 => ?_)
                    refine g_ialdI dX6_troubleOf_98 rfl (rf_now hR) ⟨by omega, by omega⟩ ?_
                    have i98 : w97.toInt.toNat = 24 + p.toInt.toNat := by omega
                    rw [i98]
                    clear i98
                    refine g_iconstI dX6_troubleOf_99 rfl rfl (fun w99 h99 => ?_)
                    refine g_icmp_eqI (t := 119) dX6_troubleOf_100 (by decide) rfl (fun c100 => ?_) (fun c100 => ?_)
                    · -- 100 t
                      refine g_aload_n0 dX6_troubleOf_119 rfl ?_
                      refine g_iload_n2 dX6_troubleOf_120 rfl ?_
                      refine g_callVi1 dX6_troubleOf_121 rfl vX6_273 hR.1 rfl (r_weightOf hR hO hC hW (by omega)) (g_rm (by omega)) (Nat.le_of_ble_eq_true rfl) (fun z121 M121 e121 => ?_)
                      obtain ⟨rfl, e121⟩ := e121
                      rw [hwt] at e121
                      refine g_iload_n3 dX6_troubleOf_124 rfl ?_
                      refine g_iaddI dX6_troubleOf_125 rfl ⟨by omega, by omega⟩ (fun w125 h125 => ?_)
                      refine g_istore5 dX6_troubleOf_126 rfl rfl ?_
                      refine g_iload5 dX6_troubleOf_128 rfl ?_
                      refine g_aload_n0 dX6_troubleOf_130 rfl ?_
                      refine g_aload_n0 dX6_troubleOf_131 rfl ?_
                      refine g_getr dX6_troubleOf_132 rfl fX6_41 hR.1 rfl ?_
                      refine g_bipushI dX6_troubleOf_135 rfl rfl (fun w135 h135 => ?_)
                      refine g_iload_n1 dX6_troubleOf_137 rfl ?_
                      refine g_iaddI dX6_troubleOf_138 rfl ⟨by omega, by omega⟩ (fun w138 h138 => ?_)
                      refine g_ialdI dX6_troubleOf_139 rfl (rf_now hR) ⟨by omega, by omega⟩ ?_
                      have i139 : w138.toInt.toNat = 18 + p.toInt.toNat := by omega
                      rw [i139]
                      clear i139
                      refine g_callVi1 dX6_troubleOf_140 rfl vX6_279 hR.1 rfl (r_lightest hR hO hC ⟨by omega, by omega⟩) (g_rm (by omega)) (Nat.le_of_ble_eq_true rfl) (fun z140 M140 e140 => ?_)
                      obtain ⟨rfl, e140⟩ := e140
                      rw [a_o] at e140
                      replace e140 : z140.toInt = lgtT T p.toInt.toNat := e140
                      refine g_icmp_geI (t := 150) dX6_troubleOf_143 (by decide) rfl (fun c143 => ?_) (fun c143 => ?_)
                      · -- 143 t
                        refine g_iload5 dX6_troubleOf_150 rfl ?_
                        refine g_aload_n0 dX6_troubleOf_152 rfl ?_
                        refine g_getr dX6_troubleOf_153 rfl fX6_41 hR.1 rfl ?_
                        refine g_bipushI dX6_troubleOf_156 rfl rfl (fun w156 h156 => ?_)
                        refine g_iload_n1 dX6_troubleOf_158 rfl ?_
                        refine g_iaddI dX6_troubleOf_159 rfl ⟨by omega, by omega⟩ (fun w159 h159 => ?_)
                        refine g_ialdI dX6_troubleOf_160 rfl (rf_now hR) ⟨by omega, by omega⟩ ?_
                        have i160 : w159.toInt.toNat = 18 + p.toInt.toNat := by omega
                        rw [i160]
                        clear i160
                        refine g_aload_n0 dX6_troubleOf_161 rfl ?_
                        refine g_getr dX6_troubleOf_162 rfl fX6_25 hR.1 rfl ?_
                        refine g_iconstI dX6_troubleOf_165 rfl rfl (fun w165 h165 => ?_)
                        refine g_ialdI dX6_troubleOf_166 rfl (rf_told hR) ⟨by omega, by omega⟩ ?_
                        have et166 : w165.toInt.toNat = 3 := by omega
                        rw [et166]
                        clear et166
                        refine g_iaddI dX6_troubleOf_167 rfl ⟨by omega, by omega⟩ (fun w167 h167 => ?_)
                        refine g_icmp_leI (t := 176) dX6_troubleOf_168 (by decide) rfl (fun c168 => ?_) (fun c168 => ?_)
                        · -- 168 t
                          refine g_iconstI dX6_troubleOf_176 rfl rfl (fun w176 h176 => ?_)
                          refine g_iret dX6_troubleOf_177 rfl ?_
                          refine ⟨_, rfl, rfl, ?_⟩
                          rw [troubT, if_neg (by omega), if_neg (by omega), if_neg (by omega)]
                          rw [← h65, if_neg (by omega), if_neg (by omega)]
                          first
                            | (have hz := h146; rw [if_pos (by omega)]; exact hz)
                            | (have hz := h171; rw [if_neg (by omega), hvyT, if_pos (by omega)]; exact hz)
                            | (have hz := h176; rw [if_neg (by omega), hvyT, if_neg (by omega)]; exact hz)
                        · -- 168 f
                          refine g_bipushI dX6_troubleOf_171 rfl rfl (fun w171 h171 => ?_)
                          refine g_goto (t := 177) dX6_troubleOf_173 (by decide) ?_
                          refine g_iret dX6_troubleOf_177 rfl ?_
                          refine ⟨_, rfl, rfl, ?_⟩
                          rw [troubT, if_neg (by omega), if_neg (by omega), if_neg (by omega)]
                          rw [← h65, if_neg (by omega), if_neg (by omega)]
                          first
                            | (have hz := h146; rw [if_pos (by omega)]; exact hz)
                            | (have hz := h171; rw [if_neg (by omega), hvyT, if_pos (by omega)]; exact hz)
                            | (have hz := h176; rw [if_neg (by omega), hvyT, if_neg (by omega)]; exact hz)
                      · -- 143 f
                        refine g_iconstI dX6_troubleOf_146 rfl rfl (fun w146 h146 => ?_)
                        refine g_goto (t := 177) dX6_troubleOf_147 (by decide) ?_
                        refine g_iret dX6_troubleOf_177 rfl ?_
                        refine ⟨_, rfl, rfl, ?_⟩
                        rw [troubT, if_neg (by omega), if_neg (by omega), if_neg (by omega)]
                        rw [← h65, if_neg (by omega), if_neg (by omega)]
                        first
                          | (have hz := h146; rw [if_pos (by omega)]; exact hz)
                          | (have hz := h171; rw [if_neg (by omega), hvyT, if_pos (by omega)]; exact hz)
                          | (have hz := h176; rw [if_neg (by omega), hvyT, if_neg (by omega)]; exact hz)
                    · -- 100 f
                      refine g_aload_n0 dX6_troubleOf_103 rfl ?_
                      refine g_getr dX6_troubleOf_104 rfl fX6_41 hR.1 rfl ?_
                      refine g_bipushI dX6_troubleOf_107 rfl rfl (fun w107 h107 => ?_)
                      refine g_iload_n1 dX6_troubleOf_109 rfl ?_
                      refine g_iaddI dX6_troubleOf_110 rfl ⟨by omega, by omega⟩ (fun w110 h110 => ?_)
                      refine g_ialdI dX6_troubleOf_111 rfl (rf_now hR) ⟨by omega, by omega⟩ ?_
                      have i111 : w110.toInt.toNat = 24 + p.toInt.toNat := by omega
                      rw [i111]
                      clear i111
                      refine g_iload4 dX6_troubleOf_112 rfl ?_
                      refine g_icmp_eqI (t := 119) dX6_troubleOf_114 (by decide) rfl (fun c114 => ?_) (fun c114 => ?_)
                      · -- 114 t
                        refine g_aload_n0 dX6_troubleOf_119 rfl ?_
                        refine g_iload_n2 dX6_troubleOf_120 rfl ?_
                        refine g_callVi1 dX6_troubleOf_121 rfl vX6_273 hR.1 rfl (r_weightOf hR hO hC hW (by omega)) (g_rm (by omega)) (Nat.le_of_ble_eq_true rfl) (fun z121 M121 e121 => ?_)
                        obtain ⟨rfl, e121⟩ := e121
                        rw [hwt] at e121
                        refine g_iload_n3 dX6_troubleOf_124 rfl ?_
                        refine g_iaddI dX6_troubleOf_125 rfl ⟨by omega, by omega⟩ (fun w125 h125 => ?_)
                        refine g_istore5 dX6_troubleOf_126 rfl rfl ?_
                        refine g_iload5 dX6_troubleOf_128 rfl ?_
                        refine g_aload_n0 dX6_troubleOf_130 rfl ?_
                        refine g_aload_n0 dX6_troubleOf_131 rfl ?_
                        refine g_getr dX6_troubleOf_132 rfl fX6_41 hR.1 rfl ?_
                        refine g_bipushI dX6_troubleOf_135 rfl rfl (fun w135 h135 => ?_)
                        refine g_iload_n1 dX6_troubleOf_137 rfl ?_
                        refine g_iaddI dX6_troubleOf_138 rfl ⟨by omega, by omega⟩ (fun w138 h138 => ?_)
                        refine g_ialdI dX6_troubleOf_139 rfl (rf_now hR) ⟨by omega, by omega⟩ ?_
                        have i139 : w138.toInt.toNat = 18 + p.toInt.toNat := by omega
                        rw [i139]
                        clear i139
                        refine g_callVi1 dX6_troubleOf_140 rfl vX6_279 hR.1 rfl (r_lightest hR hO hC ⟨by omega, by omega⟩) (g_rm (by omega)) (Nat.le_of_ble_eq_true rfl) (fun z140 M140 e140 => ?_)
                        obtain ⟨rfl, e140⟩ := e140
                        rw [a_o] at e140
                        replace e140 : z140.toInt = lgtT T p.toInt.toNat := e140
                        refine g_icmp_geI (t := 150) dX6_troubleOf_143 (by decide) rfl (fun c143 => ?_) (fun c143 => ?_)
                        · -- 143 t
                          refine g_iload5 dX6_troubleOf_150 rfl ?_
                          refine g_aload_n0 dX6_troubleOf_152 rfl ?_
                          refine g_getr dX6_troubleOf_153 rfl fX6_41 hR.1 rfl ?_
                          refine g_bipushI dX6_troubleOf_156 rfl rfl (fun w156 h156 => ?_)
                          refine g_iload_n1 dX6_troubleOf_158 rfl ?_
                          refine g_iaddI dX6_troubleOf_159 rfl ⟨by omega, by omega⟩ (fun w159 h159 => ?_)
                          refine g_ialdI dX6_troubleOf_160 rfl (rf_now hR) ⟨by omega, by omega⟩ ?_
                          have i160 : w159.toInt.toNat = 18 + p.toInt.toNat := by omega
                          rw [i160]
                          clear i160
                          refine g_aload_n0 dX6_troubleOf_161 rfl ?_
                          refine g_getr dX6_troubleOf_162 rfl fX6_25 hR.1 rfl ?_
                          refine g_iconstI dX6_troubleOf_165 rfl rfl (fun w165 h165 => ?_)
                          refine g_ialdI dX6_troubleOf_166 rfl (rf_told hR) ⟨by omega, by omega⟩ ?_
                          have et166 : w165.toInt.toNat = 3 := by omega
                          rw [et166]
                          clear et166
                          refine g_iaddI dX6_troubleOf_167 rfl ⟨by omega, by omega⟩ (fun w167 h167 => ?_)
                          refine g_icmp_leI (t := 176) dX6_troubleOf_168 (by decide) rfl (fun c168 => ?_) (fun c168 => ?_)
                          · -- 168 t
                            refine g_iconstI dX6_troubleOf_176 rfl rfl (fun w176 h176 => ?_)
                            refine g_iret dX6_troubleOf_177 rfl ?_
                            refine ⟨_, rfl, rfl, ?_⟩
                            rw [troubT, if_neg (by omega), if_neg (by omega), if_neg (by omega)]
                            rw [← h65, if_neg (by omega), if_neg (by omega)]
                            first
                              | (have hz := h146; rw [if_pos (by omega)]; exact hz)
                              | (have hz := h171; rw [if_neg (by omega), hvyT, if_pos (by omega)]; exact hz)
                              | (have hz := h176; rw [if_neg (by omega), hvyT, if_neg (by omega)]; exact hz)
                          · -- 168 f
                            refine g_bipushI dX6_troubleOf_171 rfl rfl (fun w171 h171 => ?_)
                            refine g_goto (t := 177) dX6_troubleOf_173 (by decide) ?_
                            refine g_iret dX6_troubleOf_177 rfl ?_
                            refine ⟨_, rfl, rfl, ?_⟩
                            rw [troubT, if_neg (by omega), if_neg (by omega), if_neg (by omega)]
                            rw [← h65, if_neg (by omega), if_neg (by omega)]
                            first
                              | (have hz := h146; rw [if_pos (by omega)]; exact hz)
                              | (have hz := h171; rw [if_neg (by omega), hvyT, if_pos (by omega)]; exact hz)
                              | (have hz := h176; rw [if_neg (by omega), hvyT, if_neg (by omega)]; exact hz)
                        · -- 143 f
                          refine g_iconstI dX6_troubleOf_146 rfl rfl (fun w146 h146 => ?_)
                          refine g_goto (t := 177) dX6_troubleOf_147 (by decide) ?_
                          refine g_iret dX6_troubleOf_177 rfl ?_
                          refine ⟨_, rfl, rfl, ?_⟩
                          rw [troubT, if_neg (by omega), if_neg (by omega), if_neg (by omega)]
                          rw [← h65, if_neg (by omega), if_neg (by omega)]
                          first
                            | (have hz := h146; rw [if_pos (by omega)]; exact hz)
                            | (have hz := h171; rw [if_neg (by omega), hvyT, if_pos (by omega)]; exact hz)
                            | (have hz := h176; rw [if_neg (by omega), hvyT, if_neg (by omega)]; exact hz)
                      · -- 114 f
                        refine g_iconstI dX6_troubleOf_117 rfl rfl (fun w117 h117 => ?_)
                        refine g_iret dX6_troubleOf_118 rfl ?_
                        refine ⟨_, rfl, rfl, ?_⟩
                        rw [troubT, if_neg (by omega), if_neg (by omega), if_neg (by omega)]
                        rw [← h65, if_neg (by omega), if_pos (by omega), h117]
                · -- 79 f
                  refine g_iconstI dX6_troubleOf_82 rfl rfl (fun w82 h82 => ?_)
                  refine g_iret dX6_troubleOf_83 rfl ?_
                  refine ⟨_, rfl, rfl, ?_⟩
                  rw [troubT, if_neg (by omega), if_neg (by omega), if_neg (by omega)]
                  rw [← h65, if_pos (by omega), h82]
            · -- 48 f
              refine g_iconstI dX6_troubleOf_51 rfl rfl (fun w51 h51 => ?_)
              refine g_iret dX6_troubleOf_52 rfl ?_
              refine ⟨_, rfl, rfl, ?_⟩
              rw [troubT, if_neg (by omega), if_neg (by omega)]
              rw [if_pos (by omega), h51]
          · -- 34 f
            refine g_iconstI dX6_troubleOf_37 rfl rfl (fun w37 h37 => ?_)
            refine g_iret dX6_troubleOf_38 rfl ?_
            refine ⟨_, rfl, rfl, ?_⟩
            rw [troubT]
            by_cases hx : p.toInt < 0 ∨ T 0 0 ≤ p.toInt ∨ k.toInt < 0 ∨ T 0 0 ≤ k.toInt
            · rw [if_pos hx, h37]
            · rw [if_neg hx, if_pos (by omega), h37]
set_option maxHeartbeats 1200000 in
theorem r_judge {Γ : gW} {M : gM} {T : gTw} (hR : g_Ref Γ) (hO : TOK T) (hS : RS T M) {p s n k : Int32} : Ct Γ yX6_judge μX6_judge 3 [.ref 300, .int p, .int s, .int n, .int k] M (g_qi (fun z M1 => M1 = g_u M 300 1 0 ∧ z.toInt = troubT T p.toInt s.toInt n.toInt k.toInt)) := by
  have hS0 := RS.code (x := 0) hS
  obtain ⟨hC, hW, hA, hDy, hWe⟩ := id hS0
  obtain ⟨o_pe, o_th, o_la, o_wi, o_da, o_we, o_p, o_i⟩ := id hO
  obtain ⟨r_0, r_1, r_2, r_3, r_p, r_i⟩ := id hC
  refine g_enter rfl rfl rfl (Nat.le_of_ble_eq_true rfl) ?_
  show G Γ _ _ _ _ 0 [some (.ref 300), some (.int p), some (.int s), some (.int n), some (.int k)] [] M
  refine g_aload_n0 dX6_judge_0 rfl ?_
  refine g_iconst (v := 0) dX6_judge_1 rfl rfl ?_
  refine g_put dX6_judge_2 rfl fX6_128 hR.1 rfl rfl rfl ?_
  refine g_aload_n0 dX6_judge_5 rfl ?_
  refine g_iload_n1 dX6_judge_6 rfl ?_
  refine g_iload_n2 dX6_judge_7 rfl ?_
  refine g_iload_n3 dX6_judge_8 rfl ?_
  refine g_iload4 dX6_judge_9 rfl ?_
  refine g_callVi4 dX6_judge_11 rfl vX6_289 hR.1 rfl (r_troubleOf hR hO hS0) (g_rm (by omega)) (Nat.le_of_ble_eq_true rfl) (fun z11 M11 e11 => ?_)
  obtain ⟨e11, f11⟩ := e11
  subst e11
  refine g_iret dX6_judge_14 rfl ?_
  exact ⟨_, rfl, rfl, f11⟩
