theorem g_mono {Γ : gW} {μ : gY} {R : Room} {kn : Nat × Nat} {pc : Nat} {lv : List (Option Value)} {st : List Value} {M : gM} {Q Q' : Option Value → gM → Prop} (h : ∀ v M', Q v M' → Q' v M') (k : G Γ μ R kn (g_Z Γ Q) pc lv st M) : G Γ μ R kn (g_Z Γ Q') pc lv st M := fun p l e s m args below meth c H locs A ls F X T hT X0 => by
  obtain ⟨t, st1, o, h1, h2, h3, h4⟩ := k p l e s m args below meth c H locs A ls F X T hT X0
  refine ⟨t, st1, o, h1, h2, ?_, h4⟩
  obtain ⟨⟨v, M', a, b, c⟩, d⟩ := h3
  exact ⟨⟨v, M', a, h v M' b, c⟩, d⟩
/-- the row behind a gift taken back -/
def unRow (r : Nat → Int32) (th p s k : Nat) (n pI b5 b6 b7 b8 : Int32) : Nat → Int32 :=
  let r0 := mk0 r s pI th
  let r1 := up1 r0 (12 + p) (r0 (12 + p) + n)
  let r2 := up1 r1 (12 + k) (r1 (12 + k) - n)
  up1 (up1 (up1 (up1 r2 (18 + p) b5) (24 + p) b6) (18 + k) b7) (24 + k) b8
set_option maxHeartbeats 1200000 in
theorem l_undo {Γ : gW} {M : gM} {T : gTw} (hR : g_Ref Γ) (hO : TOK T) (hC : CR T M) {bk : Nat} (hbk : bk < 200) (hs : 0 ≤ (M.1 425 (9 * bk + 1)).toInt) {x p k : Int32} (hx : x.toInt = 9 * (bk : Int)) (hp : 0 ≤ p.toInt ∧ p.toInt < 6) (hk : 0 ≤ k.toInt ∧ k.toInt < 6) {Q : Option Value → gM → Prop} (hk1 : ∀ i : Int32, G Γ μX6_undo (g_R 0) (0, 0) (g_Z Γ Q) 93 [some (.ref 300), some (.int x), some (.int p), some (.int k), some (.int i)] [] (g_row M 407 (mk0 (M.1 407) (M.1 425 (9 * bk + 1)).toInt.toNat p (T 0 1).toNat))) : ∀ (n9 : Nat) (i : Int32), (T 0 1).toNat - i.toInt.toNat = n9 → 0 ≤ i.toInt → i.toInt ≤ T 0 1 → G Γ μX6_undo (g_R 0) (0, 0) (g_Z Γ Q) 51 [some (.ref 300), some (.int x), some (.int p), some (.int k), some (.int i)] [] (g_row M 407 (mk0 (M.1 407) (M.1 425 (9 * bk + 1)).toInt.toNat p i.toInt.toNat)) := by
  intro n9
  induction n9 using Nat.strongRecOn with
  | ind n9 ih =>
    intro i hm hi0 hi1
    obtain ⟨o_pe, o_th, o_la, o_wi, o_da, o_we, o_p, o_i⟩ := id hO
    obtain ⟨r_0, r_1, r_2, r_3, r_p, r_i⟩ := id hC
    clear o_p o_i r_p r_i
    refine g_iload4 dX6_undo_51 rfl ?_
    refine g_aload_n0 dX6_undo_53 rfl ?_
    refine g_getr dX6_undo_54 rfl fX6_25 hR.1 rfl ?_
    refine g_iconstI dX6_undo_57 rfl rfl (fun w57 h57 => ?_)
    refine g_ialdI dX6_undo_58 rfl (rf_told hR) ⟨by omega, by omega⟩ ?_
    rw [g_row_ne (show 402 ≠ 407 by decide)]
    have et58 : w57.toInt.toNat = 1 := by omega
    rw [et58]
    clear et58
    refine g_icmp_geI (t := 93) dX6_undo_59 (by decide) rfl (fun c59 => ?_) (fun c59 => ?_)
    · -- 59 t
      rw [show i.toInt.toNat = (T 0 1).toNat by omega]; exact hk1 i
    · -- 59 f
      refine g_aload_n0 dX6_undo_62 rfl ?_
      refine g_getr dX6_undo_63 rfl fX6_64 hR.1 rfl ?_
      refine g_iload_n1 dX6_undo_66 rfl ?_
      refine g_iconstI dX6_undo_67 rfl rfl (fun w67 h67 => ?_)
      refine g_iaddI dX6_undo_68 rfl ⟨by omega, by omega⟩ (fun w68 h68 => ?_)
      refine g_ialdI dX6_undo_69 rfl (rf_book hR) ⟨by omega, by omega⟩ ?_
      rw [g_row_ne (show 425 ≠ 407 by decide)]
      have et69 : w68.toInt.toNat = 9 * bk + 1 := by omega
      rw [et69]
      clear et69
      refine g_iload4 dX6_undo_70 rfl ?_
      refine g_ishrB dX6_undo_72 rfl ⟨by omega, by omega, by omega⟩ (fun w72 h72 => ?_)
      refine g_iconstI dX6_undo_73 rfl rfl (fun w73 h73 => ?_)
      refine g_iandB dX6_undo_74 rfl  (fun w74 h74 => ?_)
      have hbit := bit_and1 (M.1 425 (9 * bk + 1)).toInt.toNat i.toInt.toNat
      rw [h72, bn_lit (n := 1) h73, bn_toNat hs, hbit] at h74
      have h74c : w74.toInt = if (M.1 425 (9 * bk + 1)).toInt.toNat.testBit i.toInt.toNat then 1 else 0 := by
        rw [i_bn (by rw [h74]; split <;> omega), h74]; split <;> rfl
      refine g_iconstI dX6_undo_75 rfl rfl (fun w75 h75 => ?_)
      refine g_icmp_neI (t := 87) dX6_undo_76 (by decide) rfl (fun c76 => ?_) (fun c76 => ?_)
      · -- 76 t
        refine g_iincI4 dX6_undo_87 rfl rfl rfl ⟨by omega, by omega⟩ (fun w87 h87 => ?_)
        refine g_goto (t := 51) dX6_undo_90 (by decide) ?_
        have h := ih _ (by omega) w87 rfl (by omega) (by omega)
        rw [h87, show (i.toInt + 1).toNat = i.toInt.toNat + 1 by omega] at h
        first
          | (have hb : (M.1 425 (9 * bk + 1)).toInt.toNat.testBit i.toInt.toNat = true := by
               by_cases hb : (M.1 425 (9 * bk + 1)).toInt.toNat.testBit i.toInt.toNat = true
               · exact hb
               · rw [if_neg hb] at h74c; omega
             rw [g_row_congr (mk0_yes hb)]; exact h)
          | (have hb : ¬ (M.1 425 (9 * bk + 1)).toInt.toNat.testBit i.toInt.toNat = true := fun hb => by rw [if_pos hb] at h74c; omega
             rw [mk0_no hb]; exact h)
      · -- 76 f
        refine g_aload_n0 dX6_undo_79 rfl ?_
        refine g_getr dX6_undo_80 rfl fX6_41 hR.1 rfl ?_
        refine g_iload4 dX6_undo_83 rfl ?_
        refine g_iload_n2 dX6_undo_85 rfl ?_
        refine g_iastI dX6_undo_86 rfl (rf_now hR) ⟨by omega, by omega⟩ ?_
        rw [g_u_row]
        refine g_iincI4 dX6_undo_87 rfl rfl rfl ⟨by omega, by omega⟩ (fun w87 h87 => ?_)
        refine g_goto (t := 51) dX6_undo_90 (by decide) ?_
        have h := ih _ (by omega) w87 rfl (by omega) (by omega)
        rw [h87, show (i.toInt + 1).toNat = i.toInt.toNat + 1 by omega] at h
        first
          | (have hb : (M.1 425 (9 * bk + 1)).toInt.toNat.testBit i.toInt.toNat = true := by
               by_cases hb : (M.1 425 (9 * bk + 1)).toInt.toNat.testBit i.toInt.toNat = true
               · exact hb
               · rw [if_neg hb] at h74c; omega
             rw [g_row_congr (mk0_yes hb)]; exact h)
          | (have hb : ¬ (M.1 425 (9 * bk + 1)).toInt.toNat.testBit i.toInt.toNat = true := fun hb => by rw [if_pos hb] at h74c; omega
             rw [mk0_no hb]; exact h)
set_option maxHeartbeats 1200000 in
theorem l_undo2 {Γ : gW} {M : gM} {T : gTw} (hR : g_Ref Γ) (hO : TOK T) (hC : CR T M) {bk : Nat} (hbk : bk < 200) (hs : 0 ≤ (M.1 425 (9 * bk + 1)).toInt) {x p k : Int32} (hx : x.toInt = 9 * (bk : Int)) (hp : 0 ≤ p.toInt ∧ p.toInt < 6) (hk : 0 ≤ k.toInt ∧ k.toInt < 6) {i : Int32} : G Γ μX6_undo (g_R 0) (0, 0) (g_Z Γ (g_qi (fun z M1 => z = M.1 300 24 ∧ M1 = g_row M 407 (unRow (M.1 407) (T 0 1).toNat p.toInt.toNat (M.1 425 (9 * bk + 1)).toInt.toNat k.toInt.toNat (M.1 425 (9 * bk + 2)) p (M.1 425 (9 * bk + 5)) (M.1 425 (9 * bk + 6)) (M.1 425 (9 * bk + 7)) (M.1 425 (9 * bk + 8)))))) 93 [some (.ref 300), some (.int x), some (.int p), some (.int k), some (.int i)] [] (g_row M 407 (mk0 (M.1 407) (M.1 425 (9 * bk + 1)).toInt.toNat p (T 0 1).toNat)) := by
  refine g_aload_n0 dX6_undo_93 rfl ?_
  refine g_getr dX6_undo_94 rfl fX6_41 hR.1 rfl ?_
  refine g_bipushI dX6_undo_97 rfl rfl (fun w97 h97 => ?_)
  refine g_iload_n2 dX6_undo_99 rfl ?_
  refine g_iaddI dX6_undo_100 rfl ⟨by omega, by omega⟩ (fun w100 h100 => ?_)
  refine g_dup2 dX6_undo_101 rfl rfl rfl ?_
  refine g_ialdI dX6_undo_102 rfl (rf_now hR) ⟨by omega, by omega⟩ ?_
  rw [g_row_at]
  refine g_aload_n0 dX6_undo_103 rfl ?_
  refine g_getr dX6_undo_104 rfl fX6_64 hR.1 rfl ?_
  refine g_iload_n1 dX6_undo_107 rfl ?_
  refine g_iconstI dX6_undo_108 rfl rfl (fun w108 h108 => ?_)
  refine g_iaddI dX6_undo_109 rfl ⟨by omega, by omega⟩ (fun w109 h109 => ?_)
  refine g_ialdI dX6_undo_110 rfl (rf_book hR) ⟨by omega, by omega⟩ ?_
  rw [g_row_ne (show 425 ≠ 407 by decide), show w109.toInt.toNat = 9 * bk + 2 by omega]
  refine g_iadd dX6_undo_111 rfl ?_
  refine g_iastI dX6_undo_112 rfl (rf_now hR) ⟨by omega, by omega⟩ ?_
  rw [g_u_up]
  refine g_aload_n0 dX6_undo_113 rfl ?_
  refine g_getr dX6_undo_114 rfl fX6_41 hR.1 rfl ?_
  refine g_bipushI dX6_undo_117 rfl rfl (fun w117 h117 => ?_)
  refine g_iload_n3 dX6_undo_119 rfl ?_
  refine g_iaddI dX6_undo_120 rfl ⟨by omega, by omega⟩ (fun w120 h120 => ?_)
  refine g_dup2 dX6_undo_121 rfl rfl rfl ?_
  refine g_ialdI dX6_undo_122 rfl (rf_now hR) ⟨by omega, by omega⟩ ?_
  rw [g_row_at]
  refine g_aload_n0 dX6_undo_123 rfl ?_
  refine g_getr dX6_undo_124 rfl fX6_64 hR.1 rfl ?_
  refine g_iload_n1 dX6_undo_127 rfl ?_
  refine g_iconstI dX6_undo_128 rfl rfl (fun w128 h128 => ?_)
  refine g_iaddI dX6_undo_129 rfl ⟨by omega, by omega⟩ (fun w129 h129 => ?_)
  refine g_ialdI dX6_undo_130 rfl (rf_book hR) ⟨by omega, by omega⟩ ?_
  rw [g_row_ne (show 425 ≠ 407 by decide), show w129.toInt.toNat = 9 * bk + 2 by omega]
  refine g_isub dX6_undo_131 rfl ?_
  refine g_iastI dX6_undo_132 rfl (rf_now hR) ⟨by omega, by omega⟩ ?_
  rw [g_u_up]
  refine g_aload_n0 dX6_undo_133 rfl ?_
  refine g_getr dX6_undo_134 rfl fX6_41 hR.1 rfl ?_
  refine g_bipushI dX6_undo_137 rfl rfl (fun w137 h137 => ?_)
  refine g_iload_n2 dX6_undo_139 rfl ?_
  refine g_iaddI dX6_undo_140 rfl ⟨by omega, by omega⟩ (fun w140 h140 => ?_)
  refine g_aload_n0 dX6_undo_141 rfl ?_
  refine g_getr dX6_undo_142 rfl fX6_64 hR.1 rfl ?_
  refine g_iload_n1 dX6_undo_145 rfl ?_
  refine g_iconstI dX6_undo_146 rfl rfl (fun w146 h146 => ?_)
  refine g_iaddI dX6_undo_147 rfl ⟨by omega, by omega⟩ (fun w147 h147 => ?_)
  refine g_ialdI dX6_undo_148 rfl (rf_book hR) ⟨by omega, by omega⟩ ?_
  rw [g_row_ne (show 425 ≠ 407 by decide), show w147.toInt.toNat = 9 * bk + 5 by omega]
  refine g_iastI dX6_undo_149 rfl (rf_now hR) ⟨by omega, by omega⟩ ?_
  rw [g_u_up]
  refine g_aload_n0 dX6_undo_150 rfl ?_
  refine g_getr dX6_undo_151 rfl fX6_41 hR.1 rfl ?_
  refine g_bipushI dX6_undo_154 rfl rfl (fun w154 h154 => ?_)
  refine g_iload_n2 dX6_undo_156 rfl ?_
  refine g_iaddI dX6_undo_157 rfl ⟨by omega, by omega⟩ (fun w157 h157 => ?_)
  refine g_aload_n0 dX6_undo_158 rfl ?_
  refine g_getr dX6_undo_159 rfl fX6_64 hR.1 rfl ?_
  refine g_iload_n1 dX6_undo_162 rfl ?_
  refine g_bipushI dX6_undo_163 rfl rfl (fun w163 h163 => ?_)
  refine g_iaddI dX6_undo_165 rfl ⟨by omega, by omega⟩ (fun w165 h165 => ?_)
  refine g_ialdI dX6_undo_166 rfl (rf_book hR) ⟨by omega, by omega⟩ ?_
  rw [g_row_ne (show 425 ≠ 407 by decide), show w165.toInt.toNat = 9 * bk + 6 by omega]
  refine g_iastI dX6_undo_167 rfl (rf_now hR) ⟨by omega, by omega⟩ ?_
  rw [g_u_up]
  refine g_aload_n0 dX6_undo_168 rfl ?_
  refine g_getr dX6_undo_169 rfl fX6_41 hR.1 rfl ?_
  refine g_bipushI dX6_undo_172 rfl rfl (fun w172 h172 => ?_)
  refine g_iload_n3 dX6_undo_174 rfl ?_
  refine g_iaddI dX6_undo_175 rfl ⟨by omega, by omega⟩ (fun w175 h175 => ?_)
  refine g_aload_n0 dX6_undo_176 rfl ?_
  refine g_getr dX6_undo_177 rfl fX6_64 hR.1 rfl ?_
  refine g_iload_n1 dX6_undo_180 rfl ?_
  refine g_bipushI dX6_undo_181 rfl rfl (fun w181 h181 => ?_)
  refine g_iaddI dX6_undo_183 rfl ⟨by omega, by omega⟩ (fun w183 h183 => ?_)
  refine g_ialdI dX6_undo_184 rfl (rf_book hR) ⟨by omega, by omega⟩ ?_
  rw [g_row_ne (show 425 ≠ 407 by decide), show w183.toInt.toNat = 9 * bk + 7 by omega]
  refine g_iastI dX6_undo_185 rfl (rf_now hR) ⟨by omega, by omega⟩ ?_
  rw [g_u_up]
  refine g_aload_n0 dX6_undo_186 rfl ?_
  refine g_getr dX6_undo_187 rfl fX6_41 hR.1 rfl ?_
  refine g_bipushI dX6_undo_190 rfl rfl (fun w190 h190 => ?_)
  refine g_iload_n3 dX6_undo_192 rfl ?_
  refine g_iaddI dX6_undo_193 rfl ⟨by omega, by omega⟩ (fun w193 h193 => ?_)
  refine g_aload_n0 dX6_undo_194 rfl ?_
  refine g_getr dX6_undo_195 rfl fX6_64 hR.1 rfl ?_
  refine g_iload_n1 dX6_undo_198 rfl ?_
  refine g_bipushI dX6_undo_199 rfl rfl (fun w199 h199 => ?_)
  refine g_iaddI dX6_undo_201 rfl ⟨by omega, by omega⟩ (fun w201 h201 => ?_)
  refine g_ialdI dX6_undo_202 rfl (rf_book hR) ⟨by omega, by omega⟩ ?_
  rw [g_row_ne (show 425 ≠ 407 by decide), show w201.toInt.toNat = 9 * bk + 8 by omega]
  refine g_iastI dX6_undo_203 rfl (rf_now hR) ⟨by omega, by omega⟩ ?_
  rw [g_u_up]
  refine g_aload_n0 dX6_undo_204 rfl ?_
  refine g_geti dX6_undo_205 rfl fX6_256 hR.1 rfl ?_
  rw [g_row_ne (show 300 ≠ 407 by decide)]
  refine g_iret dX6_undo_208 rfl ?_
  have q1 : w100.toInt.toNat = 12 + p.toInt.toNat := by omega
  have q2 : w120.toInt.toNat = 12 + k.toInt.toNat := by omega
  have q3 : w140.toInt.toNat = 18 + p.toInt.toNat := by omega
  have q4 : w157.toInt.toNat = 24 + p.toInt.toNat := by omega
  have q5 : w175.toInt.toNat = 18 + k.toInt.toNat := by omega
  have q6 : w193.toInt.toNat = 24 + k.toInt.toNat := by omega
  rw [q1, q2, q3, q4, q5, q6]
  exact ⟨_, rfl, rfl, rfl⟩
/-- the reference's memory behind undo() -/
def unM (M : gM) (th : Nat) (g1 : Int32) : gM :=
  let b := fun j => M.1 425 (9 * ((M.1 300 24).toInt - 1).toNat + j)
  g_row (g_u (g_u M 300 1 0) 300 24 g1) 407 (unRow (M.1 407) th (b 0).toInt.toNat (b 1).toInt.toNat (b 3).toInt.toNat (b 2) (b 0) (b 5) (b 6) (b 7) (b 8))
set_option maxHeartbeats 1200000 in
theorem r_undo {Γ : gW} {M : gM} {T : gTw} (hR : g_Ref Γ) (hO : TOK T) (hS : RS T M) (hg : 0 ≤ (M.1 300 24).toInt ∧ (M.1 300 24).toInt ≤ 200) (hb : 0 < (M.1 300 24).toInt → (0 ≤ (M.1 425 (9 * ((M.1 300 24).toInt - 1).toNat + 0)).toInt ∧ (M.1 425 (9 * ((M.1 300 24).toInt - 1).toNat + 0)).toInt < 6) ∧ (0 ≤ (M.1 425 (9 * ((M.1 300 24).toInt - 1).toNat + 3)).toInt ∧ (M.1 425 (9 * ((M.1 300 24).toInt - 1).toNat + 3)).toInt < 6) ∧ 0 ≤ (M.1 425 (9 * ((M.1 300 24).toInt - 1).toNat + 1)).toInt)  : Ct Γ yX6_undo μX6_undo 0 [.ref 300] M (g_qi (fun z M1 => ((M.1 300 24).toInt = 0 ∧ z.toInt = -1 ∧ M1 = g_u M 300 1 0) ∨ (0 < (M.1 300 24).toInt ∧ ∃ g1 : Int32, g1.toInt = (M.1 300 24).toInt - 1 ∧ z = g1 ∧ M1 = unM M (T 0 1).toNat g1))) := by
  have hS0 := RS.code (x := 0) hS
  obtain ⟨hC, hW, hA, hDy, hWe⟩ := id hS0
  obtain ⟨o_pe, o_th, o_la, o_wi, o_da, o_we, o_p, o_i⟩ := id hO
  obtain ⟨r_0, r_1, r_2, r_3, r_p, r_i⟩ := id hC
  clear o_p o_i r_p r_i o_la o_da o_we
  refine g_enter rfl rfl rfl (Nat.le_of_ble_eq_true rfl) ?_
  show G Γ _ _ _ _ 0 [some (.ref 300), none, none, none, none] [] M
  refine g_aload_n0 dX6_undo_0 rfl ?_
  refine g_iconst (v := 0) dX6_undo_1 rfl rfl ?_
  refine g_put dX6_undo_2 rfl fX6_128 hR.1 rfl rfl rfl ?_
  refine g_aload_n0 dX6_undo_5 rfl ?_
  refine g_geti dX6_undo_6 rfl fX6_256 hR.1 rfl ?_
  rw [g_u_eq, if_neg (show ¬ (24 : Nat) = 1 by decide)]
  refine g_if_neI (t := 14) dX6_undo_9 (by decide) rfl (fun c9 => ?_) (fun c9 => ?_)
  · -- 9 t
    obtain ⟨hb0, hb3, hb1⟩ := hb (by omega)
    refine g_aload_n0 dX6_undo_14 rfl ?_
    refine g_dup dX6_undo_15 rfl rfl ?_
    refine g_geti dX6_undo_16 rfl fX6_256 hR.1 rfl ?_
    rw [g_u_eq, if_neg (show ¬ (24 : Nat) = 1 by decide)]
    refine g_iconstI dX6_undo_19 rfl rfl (fun w19 h19 => ?_)
    refine g_isubI dX6_undo_20 rfl ⟨by omega, by omega⟩ (fun w20 h20 => ?_)
    refine g_put dX6_undo_21 rfl fX6_256 hR.1 rfl rfl rfl ?_
    refine g_bipushI dX6_undo_24 rfl rfl (fun w24 h24 => ?_)
    refine g_aload_n0 dX6_undo_26 rfl ?_
    refine g_geti dX6_undo_27 rfl fX6_256 hR.1 rfl ?_
    rw [g_u_eq, if_pos (show (24 : Nat) = 24 from rfl)]
    refine g_imulI dX6_undo_30 rfl ⟨by rw [h24]; omega, by rw [h24]; omega⟩ (fun w30 h30 => ?_)
    rw [h24] at h30
    refine g_istore_n1 dX6_undo_31 rfl rfl ?_
    refine g_aload_n0 dX6_undo_32 rfl ?_
    refine g_getr dX6_undo_33 rfl fX6_64 hR.1 rfl ?_
    refine g_iload_n1 dX6_undo_36 rfl ?_
    refine g_ialdI dX6_undo_37 rfl (rf_book hR) ⟨by omega, by omega⟩ ?_
    rw [g_u_ne (show 425 ≠ 300 by omega)]
    rw [g_u_ne (show 425 ≠ 300 by omega)]
    rw [show w30.toInt.toNat = 9 * ((M.1 300 24).toInt - 1).toNat + 0 by omega]
    refine g_istore_n2 dX6_undo_38 rfl rfl ?_
    refine g_aload_n0 dX6_undo_39 rfl ?_
    refine g_getr dX6_undo_40 rfl fX6_64 hR.1 rfl ?_
    refine g_iload_n1 dX6_undo_43 rfl ?_
    refine g_iconstI dX6_undo_44 rfl rfl (fun w44 h44 => ?_)
    refine g_iaddI dX6_undo_45 rfl ⟨by omega, by omega⟩ (fun w45 h45 => ?_)
    refine g_ialdI dX6_undo_46 rfl (rf_book hR) ⟨by omega, by omega⟩ ?_
    rw [g_u_ne (show 425 ≠ 300 by omega)]
    rw [g_u_ne (show 425 ≠ 300 by omega)]
    rw [show w45.toInt.toNat = 9 * ((M.1 300 24).toInt - 1).toNat + 3 by omega]
    refine g_istore_n3 dX6_undo_47 rfl rfl ?_
    refine g_iconstI dX6_undo_48 rfl rfl (fun w48 h48 => ?_)
    refine g_istore4 dX6_undo_49 rfl rfl ?_
    have hC2 : CR T (g_u (g_u M 300 1 0) 300 24 w20) := by
      have := (RS.code (x := 0) hS).1
      unfold CR at this ⊢
      rw [g_u_ne (show 402 ≠ 300 by decide), g_u_ne (show 403 ≠ 300 by decide), g_u_ne (show 404 ≠ 300 by decide), g_u_ne (show 405 ≠ 300 by decide)]
      exact this
    have m425 : (g_u (g_u M 300 1 0) 300 24 w20).1 425 = M.1 425 := by rw [g_u_ne (by decide), g_u_ne (by decide)]
    have m407 : (g_u (g_u M 300 1 0) 300 24 w20).1 407 = M.1 407 := by rw [g_u_ne (by decide), g_u_ne (by decide)]
    have hgo := l_undo hR hO hC2 (bk := ((M.1 300 24).toInt - 1).toNat) (by omega) (by rw [m425]; exact hb1) (x := w30) (p := M.1 425 (9 * ((M.1 300 24).toInt - 1).toNat + 0)) (k := M.1 425 (9 * ((M.1 300 24).toInt - 1).toNat + 3)) (by omega) hb0 hb3 (fun i1 => l_undo2 hR hO hC2 (by omega) (by rw [m425]; exact hb1) (by omega) hb0 hb3 (i := i1)) _ w48 rfl (by omega) (by omega)
    rw [h48, show (0 : Int).toNat = 0 from rfl, mk0_0, g_row_self] at hgo
    refine g_mono (fun v M' hh => ?_) hgo
    obtain ⟨z, rfl, hz, hM⟩ := hh
    rw [m407, m425] at hM
    refine ⟨z, rfl, Or.inr ⟨by omega, w20, by omega, ?_, hM⟩⟩
    rw [hz, g_u_eq, if_pos rfl]
  · -- 9 f
    refine g_iconstI dX6_undo_12 rfl rfl (fun w12 h12 => ?_)
    refine g_iret dX6_undo_13 rfl ?_
    exact ⟨_, rfl, Or.inl ⟨by omega, by omega, rfl⟩⟩
