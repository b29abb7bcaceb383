set_option maxHeartbeats 1200000 in
theorem l_loadRow {Γ : gW} {M : gM} (hR : g_Ref Γ) {n : Nat} {nI : Int32} (hn : nI.toInt = (n : Int)) (hn6 : n ≤ 6) {Q : Option Value → gM → Prop} (hQ : Q none (rowI M 427 (fun j => M.1 426 (30 * n + j)) 30)) : ∀ (n9 : Nat) (i : Int32), 30 - i.toInt.toNat = n9 → 0 ≤ i.toInt → i.toInt ≤ 30 → G Γ μX6_loadRow (g_R 0) (0, 0) (g_Z Γ Q) 2 [some (.ref 300), some (.int nI), some (.int i)] [] (rowI M 427 (fun j => M.1 426 (30 * n + j)) i.toInt.toNat) := by
  intro n9
  induction n9 using Nat.strongRecOn with
  | ind n9 ih =>
    intro i h9 hi0 hi1
    refine g_iload_n2 dX6_loadRow_2 rfl ?_
    refine g_bipushI dX6_loadRow_3 rfl rfl (fun w3 h3 => ?_)
    refine g_icmp_geI (t := 31) dX6_loadRow_5 (by decide) rfl (fun c5 => ?_) (fun c5 => ?_)
    · -- 5 t
      refine g_vret dX6_loadRow_31 rfl ?_
      rw [show i.toInt.toNat = 30 by omega]; exact hQ
    · -- 5 f
      refine g_aload_n0 dX6_loadRow_8 rfl ?_
      refine g_getr dX6_loadRow_9 rfl fX6_70 hR.1 rfl ?_
      refine g_iload_n2 dX6_loadRow_12 rfl ?_
      refine g_aload_n0 dX6_loadRow_13 rfl ?_
      refine g_getr dX6_loadRow_14 rfl fX6_67 hR.1 rfl ?_
      refine g_bipushI dX6_loadRow_17 rfl rfl (fun w17 h17 => ?_)
      refine g_iload_n1 dX6_loadRow_19 rfl ?_
      refine g_imulI dX6_loadRow_20 rfl ⟨by rw [h17]; omega, by rw [h17]; omega⟩ (fun w20 h20 => ?_)
      rw [h17] at h20
      refine g_iload_n2 dX6_loadRow_21 rfl ?_
      refine g_iaddI dX6_loadRow_22 rfl ⟨by omega, by omega⟩ (fun w22 h22 => ?_)
      refine g_ialdI dX6_loadRow_23 rfl (rf_weekRows hR) ⟨by omega, by omega⟩ ?_
      rw [rowI_ne (show (426 : Nat) ≠ 427 by decide), show w22.toInt.toNat = 30 * n + i.toInt.toNat by omega]
      refine g_iastI dX6_loadRow_24 rfl (rf_weekRow hR) ⟨by omega, by omega⟩ ?_
      refine g_iincI2 dX6_loadRow_25 rfl rfl rfl ⟨by omega, by omega⟩ (fun w25 h25 => ?_)
      refine g_goto (t := 2) dX6_loadRow_28 (by decide) ?_
      have h := ih _ (by omega) w25 rfl (by omega) (by omega)
      rw [h25, show (i.toInt + 1).toNat = i.toInt.toNat + 1 by omega, ← rowI_step (f := fun j => M.1 426 (30 * n + j)) (i := i.toInt.toNat) (x := M.1 426 (30 * n + i.toInt.toNat)) rfl] at h
      exact h
set_option maxHeartbeats 1200000 in
theorem r_loadRow {Γ : gW} {M : gM} (hR : g_Ref Γ) {n : Nat} {nI : Int32} (hn : nI.toInt = (n : Int)) (hn6 : n ≤ 6)  : Ct Γ yX6_loadRow μX6_loadRow 0 [.ref 300, .int nI] M (g_qv (fun M1 => M1 = rowI M 427 (fun j => M.1 426 (30 * n + j)) 30)) := by
  refine g_enter rfl rfl rfl (Nat.le_of_ble_eq_true rfl) ?_
  show G Γ _ _ _ _ 0 [some (.ref 300), some (.int nI), none] [] M
  refine g_iconstI dX6_loadRow_0 rfl rfl (fun w0 h0 => ?_)
  refine g_istore_n2 dX6_loadRow_1 rfl rfl ?_
  exact g_fwd (l_loadRow hR hn hn6 (M := M) ⟨rfl, rfl⟩ _ w0 rfl (by omega) (by omega)) (by rw [h0, show (0 : Int).toNat = 0 from rfl, rowI_0])
set_option maxHeartbeats 1200000 in
theorem l_ansT {Γ : gW} {M : gM} {T : gTw} (hR : g_Ref Γ) (hO : TOK T) (hC : CR T M) {nI dI p s sd k : Int32} (hs : 0 ≤ s.toInt ∧ s.toInt < 4096) {d : Nat} {Q : Option Value → gM → Prop} (hk1 : ∀ i : Int32, G Γ μX6_answerOn (g_R d) (0, 0) (g_Z Γ Q) 146 [some (.ref 300), some (.int nI), some (.int dI), some (.int p), some (.int s), some (.int sd), some (.int k), some (.int i)] [] (g_row M 427 (mk0 (M.1 427) s.toInt.toNat k (T 0 1).toNat))) : ∀ (n9 : Nat) (i : Int32), (T 0 1).toNat - i.toInt.toNat = n9 → 0 ≤ i.toInt → i.toInt ≤ T 0 1 → G Γ μX6_answerOn (g_R d) (0, 0) (g_Z Γ Q) 109 [some (.ref 300), some (.int nI), some (.int dI), some (.int p), some (.int s), some (.int sd), some (.int k), some (.int i)] [] (g_row M 427 (mk0 (M.1 427) s.toInt.toNat k i.toInt.toNat)) := by
  intro n9
  induction n9 using Nat.strongRecOn with
  | ind n9 ih =>
    intro i hm hi0 hi1
    obtain ⟨o_pe, o_th, o_la, o_wi, o_da, o_we, o_p, o_i⟩ := id hO
    obtain ⟨r_0, r_1, r_2, r_3, r_p, r_i⟩ := id hC
    refine g_iload7 dX6_answerOn_109 rfl ?_
    refine g_aload_n0 dX6_answerOn_111 rfl ?_
    refine g_getr dX6_answerOn_112 rfl fX6_25 hR.1 rfl ?_
    refine g_iconstI dX6_answerOn_115 rfl rfl (fun w115 h115 => ?_)
    refine g_ialdI dX6_answerOn_116 rfl (rf_told hR) ⟨by omega, by omega⟩ ?_
    rw [g_row_ne (show (402 : Nat) ≠ 427 by decide)]
    have et116 : w115.toInt.toNat = 1 := by omega
    rw [et116]
    refine g_icmp_geI (t := 146) dX6_answerOn_117 (by decide) rfl (fun c117 => ?_) (fun c117 => ?_)
    · -- 117 t
      rw [show i.toInt.toNat = (T 0 1).toNat by omega]; exact hk1 i
    · -- 117 f
      refine g_iload4 dX6_answerOn_120 rfl ?_
      refine g_iload7 dX6_answerOn_122 rfl ?_
      refine g_ishrB dX6_answerOn_124 rfl ⟨by omega, by omega, by omega⟩ (fun w124 h124 => ?_)
      refine g_iconstI dX6_answerOn_125 rfl rfl (fun w125 h125 => ?_)
      refine g_iandB dX6_answerOn_126 rfl  (fun w126 h126 => ?_)
      have hbit := bit_and1 s.toInt.toNat i.toInt.toNat
      rw [h124, bn_lit (n := 1) h125, bn_toNat hs.1, hbit] at h126
      have h126c : w126.toInt = if s.toInt.toNat.testBit i.toInt.toNat then 1 else 0 := by
        rw [i_bn (by rw [h126]; split <;> omega), h126]; split <;> rfl
      refine g_iconstI dX6_answerOn_127 rfl rfl (fun w127 h127 => ?_)
      refine g_icmp_neI (t := 140) dX6_answerOn_128 (by decide) rfl (fun c128 => ?_) (fun c128 => ?_)
      · -- 128 t
        refine g_iincI7 dX6_answerOn_140 rfl rfl rfl ⟨by omega, by omega⟩ (fun w140 h140 => ?_)
        refine g_goto (t := 109) dX6_answerOn_143 (by decide) ?_
        have h := ih _ (by omega) w140 rfl (by omega) (by omega)
        rw [h140, show (i.toInt + 1).toNat = i.toInt.toNat + 1 by omega] at h
        first
          | (have hb : s.toInt.toNat.testBit i.toInt.toNat = true := by
               by_cases hb : s.toInt.toNat.testBit i.toInt.toNat = true
               · exact hb
               · rw [if_neg hb] at h126c; omega
             rw [g_row_congr (mk0_yes hb)]; exact h)
          | (have hb : ¬ s.toInt.toNat.testBit i.toInt.toNat = true := fun hb => by rw [if_pos hb] at h126c; omega
             rw [mk0_no hb]; exact h)
      · -- 128 f
        refine g_aload_n0 dX6_answerOn_131 rfl ?_
        refine g_getr dX6_answerOn_132 rfl fX6_70 hR.1 rfl ?_
        refine g_iload7 dX6_answerOn_135 rfl ?_
        refine g_iload6 dX6_answerOn_137 rfl ?_
        refine g_iastI dX6_answerOn_139 rfl (rf_weekRow hR) ⟨by omega, by omega⟩ ?_
        rw [g_u_row]
        refine g_iincI7 dX6_answerOn_140 rfl rfl rfl ⟨by omega, by omega⟩ (fun w140 h140 => ?_)
        refine g_goto (t := 109) dX6_answerOn_143 (by decide) ?_
        have h := ih _ (by omega) w140 rfl (by omega) (by omega)
        rw [h140, show (i.toInt + 1).toNat = i.toInt.toNat + 1 by omega] at h
        first
          | (have hb : s.toInt.toNat.testBit i.toInt.toNat = true := by
               by_cases hb : s.toInt.toNat.testBit i.toInt.toNat = true
               · exact hb
               · rw [if_neg hb] at h126c; omega
             rw [g_row_congr (mk0_yes hb)]; exact h)
          | (have hb : ¬ s.toInt.toNat.testBit i.toInt.toNat = true := fun hb => by rw [if_pos hb] at h126c; omega
             rw [mk0_no hb]; exact h)
/-- weekRow laid into weekRows at place b, the first i cells -/
def layI (M : gM) (b i : Nat) : gM := g_row M 426 (fun j => if b ≤ j ∧ j < b + i then M.1 427 (j - b) else M.1 426 j)
theorem layI_0 {M : gM} {b : Nat} : layI M b 0 = M := by
  rw [layI]
  conv => rhs; rw [← g_row_self (M := M) (a := 426)]
  refine g_row_congr fun j => ?_
  rw [if_neg (by omega)]
theorem layI_step {M : gM} {b i : Nat} : g_u (layI M b i) 426 (b + i) (M.1 427 i) = layI M b (i + 1) := by
  rw [layI, g_u_row, layI]
  refine g_row_congr fun j => ?_
  by_cases h : j = b + i
  · rw [if_pos h, if_pos (by omega), show j - b = i by omega]
  · rw [if_neg h]
    by_cases h2 : b ≤ j ∧ j < b + i
    · rw [if_pos h2, if_pos (by omega)]
    · rw [if_neg h2, if_neg (by omega)]
set_option maxHeartbeats 1200000 in
theorem l_ansL {Γ : gW} {M : gM} (hR : g_Ref Γ) {n : Nat} {nI dI p s sd k : Int32} (hn : nI.toInt = (n : Int)) (hn6 : n ≤ 5) {d : Nat} {Q : Option Value → gM → Prop} (hk1 : ∀ i : Int32, G Γ μX6_answerOn (g_R d) (0, 0) (g_Z Γ Q) 212 [some (.ref 300), some (.int nI), some (.int dI), some (.int p), some (.int s), some (.int sd), some (.int k), some (.int i)] [] (layI M (30 * (n + 1)) 30)) : ∀ (n9 : Nat) (i : Int32), 30 - i.toInt.toNat = n9 → 0 ≤ i.toInt → i.toInt ≤ 30 → G Γ μX6_answerOn (g_R d) (0, 0) (g_Z Γ Q) 178 [some (.ref 300), some (.int nI), some (.int dI), some (.int p), some (.int s), some (.int sd), some (.int k), some (.int i)] [] (layI M (30 * (n + 1)) i.toInt.toNat) := by
  intro n9
  induction n9 using Nat.strongRecOn with
  | ind n9 ih =>
    intro i h9 hi0 hi1
    refine g_iload7 dX6_answerOn_178 rfl ?_
    refine g_bipushI dX6_answerOn_180 rfl rfl (fun w180 h180 => ?_)
    refine g_icmp_geI (t := 212) dX6_answerOn_182 (by decide) rfl (fun c182 => ?_) (fun c182 => ?_)
    · -- 182 t
      rw [show i.toInt.toNat = 30 by omega]; exact hk1 i
    · -- 182 f
      refine g_aload_n0 dX6_answerOn_185 rfl ?_
      refine g_getr dX6_answerOn_186 rfl fX6_67 hR.1 rfl ?_
      refine g_bipushI dX6_answerOn_189 rfl rfl (fun w189 h189 => ?_)
      refine g_iload_n1 dX6_answerOn_191 rfl ?_
      refine g_iconstI dX6_answerOn_192 rfl rfl (fun w192 h192 => ?_)
      refine g_iaddI dX6_answerOn_193 rfl ⟨by omega, by omega⟩ (fun w193 h193 => ?_)
      refine g_imulI dX6_answerOn_194 rfl ⟨by rw [h189]; omega, by rw [h189]; omega⟩ (fun w194 h194 => ?_)
      rw [h189] at h194
      refine g_iload7 dX6_answerOn_195 rfl ?_
      refine g_iaddI dX6_answerOn_197 rfl ⟨by omega, by omega⟩ (fun w197 h197 => ?_)
      refine g_aload_n0 dX6_answerOn_198 rfl ?_
      refine g_getr dX6_answerOn_199 rfl fX6_70 hR.1 rfl ?_
      refine g_iload7 dX6_answerOn_202 rfl ?_
      refine g_ialdI dX6_answerOn_204 rfl (rf_weekRow hR) ⟨by omega, by omega⟩ ?_
      rw [show (layI M (30 * (n + 1)) i.toInt.toNat).1 427 = M.1 427 from g_row_ne (by decide)]
      refine g_iastI dX6_answerOn_205 rfl (rf_weekRows hR) ⟨by omega, by omega⟩ ?_
      rw [show w197.toInt.toNat = 30 * (n + 1) + i.toInt.toNat by omega, layI_step]
      refine g_iincI7 dX6_answerOn_206 rfl rfl rfl ⟨by omega, by omega⟩ (fun w206 h206 => ?_)
      refine g_goto (t := 178) dX6_answerOn_209 (by decide) ?_
      have h := ih _ (by omega) w206 rfl (by omega) (by omega)
      rw [h206, show (i.toInt + 1).toNat = i.toInt.toNat + 1 by omega] at h
      exact h
