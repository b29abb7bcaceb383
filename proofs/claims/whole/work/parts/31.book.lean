/-- a Book by its number b: the object b, its rows b + 1 -/
def g_Book (Γ : gW) (b : Nat) : Prop := g_o Γ b (.inl (0, [none, some (some (b + 1))])) ∧ g_o Γ (b + 1) (.inr (1, 1800))
set_option maxHeartbeats 4000000 in
theorem c_bkLength {Γ : gW} {b : Nat} {M : gM} (hK : g_Book Γ b)  : Ct Γ yX0_length μX0_length 0 [.ref b] M (g_qi (fun z M1 => M1 = M ∧ z = M.1 b 0)) := by
  refine g_enter rfl rfl rfl (Nat.le_of_ble_eq_true rfl) ?_
  show G Γ _ _ _ _ 0 [some (.ref b)] [] M
  refine g_aload_n0 dX0_length_0 rfl ?_
  refine g_geti dX0_length_1 rfl fX0_7 hK.1 rfl ?_
  refine g_iret dX0_length_4 rfl ?_
  exact ⟨_, rfl, rfl, rfl⟩
set_option maxHeartbeats 4000000 in
theorem c_bkIsFull {Γ : gW} {b : Nat} {M : gM} (hK : g_Book Γ b)  : Ct Γ yX0_isFull μX0_isFull 0 [.ref b] M (g_qi (fun z M1 => M1 = M ∧ (z.toInt = 0 ∨ z.toInt = 1) ∧ (z.toInt = 1 ↔ 200 ≤ (M.1 b 0).toInt))) := by
  refine g_enter rfl rfl rfl (Nat.le_of_ble_eq_true rfl) ?_
  show G Γ _ _ _ _ 0 [some (.ref b)] [] M
  refine g_aload_n0 dX0_isFull_0 rfl ?_
  refine g_geti dX0_isFull_1 rfl fX0_7 hK.1 rfl ?_
  refine g_sipushI dX0_isFull_4 rfl rfl (fun w4 h4 => ?_)
  refine g_icmp_ltI (t := 14) dX0_isFull_7 (by decide) rfl (fun c7 => ?_) (fun c7 => ?_)
  · -- 7 t
    refine g_iconstI dX0_isFull_14 rfl rfl (fun w14 h14 => ?_)
    refine g_zretI dX0_isFull_15 rfl (by omega) ?_
    exact ⟨_, rfl, rfl, by omega, by omega⟩
  · -- 7 f
    refine g_iconstI dX0_isFull_10 rfl rfl (fun w10 h10 => ?_)
    refine g_goto (t := 15) dX0_isFull_11 (by decide) ?_
    refine g_zretI dX0_isFull_15 rfl (by omega) ?_
    exact ⟨_, rfl, rfl, by omega, by omega⟩
set_option maxHeartbeats 4000000 in
theorem c_bkClear {Γ : gW} {b : Nat} {M : gM} (hK : g_Book Γ b)  : Ct Γ yX0_clear μX0_clear 0 [.ref b] M (g_qv (fun M1 => M1 = g_u M b 0 0)) := by
  refine g_enter rfl rfl rfl (Nat.le_of_ble_eq_true rfl) ?_
  show G Γ _ _ _ _ 0 [some (.ref b)] [] M
  refine g_aload_n0 dX0_clear_0 rfl ?_
  refine g_iconst (v := 0) dX0_clear_1 rfl rfl ?_
  refine g_put dX0_clear_2 rfl fX0_7 hK.1 rfl rfl rfl ?_
  refine g_vret dX0_clear_5 rfl ?_
  exact ⟨rfl, rfl⟩
set_option maxHeartbeats 4000000 in
theorem c_bkEntry {Γ : gW} {b : Nat} {M : gM} (hK : g_Book Γ b) {i w : Int32} (hi : 0 ≤ i.toInt ∧ i.toInt < 200) (hw : 0 ≤ w.toInt ∧ w.toInt < 9) : Ct Γ yX0_entry μX0_entry 0 [.ref b, .int i, .int w] M (g_qi (fun z M1 => M1 = M ∧ z = M.1 (b + 1) (i.toInt.toNat * 9 + w.toInt.toNat))) := by
  refine g_enter rfl rfl rfl (Nat.le_of_ble_eq_true rfl) ?_
  show G Γ _ _ _ _ 0 [some (.ref b), some (.int i), some (.int w)] [] M
  refine g_aload_n0 dX0_entry_0 rfl ?_
  refine g_getr dX0_entry_1 rfl fX0_13 hK.1 rfl ?_
  refine g_iload_n1 dX0_entry_4 rfl ?_
  refine g_bipushI dX0_entry_5 rfl rfl (fun w5 h5 => ?_)
  refine g_imulI dX0_entry_7 rfl ⟨by rw [h5]; omega, by rw [h5]; omega⟩ (fun w7 h7 => ?_)
  rw [h5] at h7
  refine g_iload_n2 dX0_entry_8 rfl ?_
  refine g_iaddI dX0_entry_9 rfl ⟨by omega, by omega⟩ (fun w9 h9 => ?_)
  refine g_ialdI dX0_entry_10 rfl (hK).2 ⟨by omega, by omega⟩ ?_
  refine g_iret dX0_entry_11 rfl ?_
  refine ⟨_, rfl, rfl, ?_⟩
  rw [show w9.toInt.toNat = i.toInt.toNat * 9 + w.toInt.toNat by omega]
set_option maxHeartbeats 4000000 in
theorem c_bkCopy {Γ : gW} {b b2 : Nat} {M : gM} (hK : g_Book Γ b) (hK2 : g_Book Γ b2) (hdj : b + 1 < b2 ∨ b2 + 1 < b) (hg : 0 ≤ (M.1 b2 0).toInt ∧ (M.1 b2 0).toInt ≤ 200)  : Ct Γ yX0_copyFrom μX0_copyFrom 0 [.ref b, .ref b2] M (g_qv (fun M1 => (∀ j, j ≠ b → j ≠ b + 1 → M1.1 j = M.1 j) ∧ M1.2 = M.2 ∧ M1.1 b 0 = M.1 b2 0 ∧ ∀ k, k < (M.1 b2 0).toInt.toNat * 9 → M1.1 (b + 1) k = M.1 (b2 + 1) k)) := by
  refine g_enter rfl rfl rfl (Nat.le_of_ble_eq_true rfl) ?_
  show G Γ _ _ _ _ 0 [some (.ref b), some (.ref b2)] [] M
  refine g_aload_n0 dX0_copyFrom_0 rfl ?_
  refine g_aload_n1 dX0_copyFrom_1 rfl ?_
  refine g_geti dX0_copyFrom_2 rfl fX0_7 hK2.1 rfl ?_
  refine g_put dX0_copyFrom_5 rfl fX0_7 hK.1 rfl rfl rfl ?_
  refine g_aload_n1 dX0_copyFrom_8 rfl ?_
  refine g_getr dX0_copyFrom_9 rfl fX0_13 hK2.1 rfl ?_
  refine g_iconstI dX0_copyFrom_12 rfl rfl (fun w12 h12 => ?_)
  refine g_aload_n0 dX0_copyFrom_13 rfl ?_
  refine g_getr dX0_copyFrom_14 rfl fX0_13 hK.1 rfl ?_
  refine g_iconstI dX0_copyFrom_17 rfl rfl (fun w17 h17 => ?_)
  refine g_aload_n0 dX0_copyFrom_18 rfl ?_
  refine g_geti dX0_copyFrom_19 rfl fX0_7 hK.1 rfl ?_
  rw [g_u_eq, if_pos (show (0 : Nat) = 0 from rfl)]
  refine g_bipushI dX0_copyFrom_22 rfl rfl (fun w22 h22 => ?_)
  refine g_imulI dX0_copyFrom_24 rfl ⟨by rw [h22]; omega, by rw [h22]; omega⟩ (fun w24 h24 => ?_)
  rw [h22] at h24
  refine g_acopy dX0_copyFrom_25 rfl jaX0_17 ja_s ja_i ja_n (hK).2 (hK2).2 (by omega) (by omega) (by omega) (by omega) (by omega) ⟨by show 1 ≤ _ + 1; omega, by show _ ≤ 40 + 50 * _; simp [Value.category] <;> omega⟩ ?_
  refine g_vret dX0_copyFrom_28 rfl ?_
  refine ⟨rfl, fun j h1 h2 => ?_, rfl, ?_, fun k hk => ?_⟩
  · rw [g_row_ne h2, g_u_ne h1]
  · rw [g_row_ne (by omega), g_u_eq, if_pos rfl]
  · rw [g_row_at, va_cpy, if_pos (by omega), g_u_ne (show b2 + 1 ≠ b by omega), show w12.toInt.toNat + (k - w17.toInt.toNat) = k by omega]
/-- the Book's rows with a gift more: what each place of row n holds -/
def wrRow (M : gM) (t g k : Nat) (p s sd o v : Int32) : Nat → Int32 := fun j => if j = 0 then p else if j = 1 then s else if j = 2 then sd else if j = 3 then o else if j = 4 then v else if j = 5 then M.1 (t + 4) g else if j = 6 then M.1 (t + 5) g else if j = 7 then M.1 (t + 4) k else M.1 (t + 5) k
def wroteM (M M1 : gM) (b n : Nat) (r : Nat → Int32) : Prop := (∀ j, j ≠ b → j ≠ b + 1 → M1.1 j = M.1 j) ∧ M1.2 = M.2 ∧ (M1.1 b 0).toInt = n + 1 ∧ (∀ j, j < 9 → M1.1 (b + 1) (n * 9 + j) = r j) ∧ ∀ k, k < n * 9 → M1.1 (b + 1) k = M.1 (b + 1) k
set_option maxHeartbeats 4000000 in
theorem c_bkWrite {Γ : gW} {b t : Nat} {M : gM} (hK : g_Book Γ b) (hT : g_Town Γ t) (hB : TBw M t) (hdj : b + 1 < t ∨ t + 10 < b) (hgi : 0 ≤ (M.1 b 0).toInt ∧ (M.1 b 0).toInt < 200) {p s sd o : Int32} (hp : 0 ≤ p.toInt ∧ p.toInt < 6) (ho : 0 ≤ o.toInt ∧ o.toInt < 6) (hs : 0 ≤ s.toInt ∧ s.toInt < 4096) (hsd : -10000 ≤ sd.toInt ∧ sd.toInt ≤ 10000)  : Ct Γ yX0_write μX0_write 1 [.ref b, .ref t, .int p, .int s, .int sd, .int o] M (g_qv (fun M1 => ∃ v : Int32, v.toInt = wt M t s.toInt.toNat + sd.toInt ∧ wroteM M M1 b (M.1 b 0).toInt.toNat (wrRow M t p.toInt.toNat o.toInt.toNat p s sd o v))) := by
  refine g_enter rfl rfl rfl (Nat.le_of_ble_eq_true rfl) ?_
  show G Γ _ _ _ _ 0 [some (.ref b), some (.ref t), some (.int p), some (.int s), some (.int sd), some (.int o), none] [] M
  refine g_aload_n0 dX0_write_0 rfl ?_
  refine g_geti dX0_write_1 rfl fX0_7 hK.1 rfl ?_
  refine g_bipushI dX0_write_4 rfl rfl (fun w4 h4 => ?_)
  refine g_imulI dX0_write_6 rfl ⟨by rw [h4]; omega, by rw [h4]; omega⟩ (fun w6 h6 => ?_)
  rw [h4] at h6
  refine g_istore6 dX0_write_7 rfl rfl ?_
  refine g_aload_n0 dX0_write_9 rfl ?_
  refine g_getr dX0_write_10 rfl fX0_13 hK.1 rfl ?_
  refine g_iload6 dX0_write_13 rfl ?_
  refine g_iload_n2 dX0_write_15 rfl ?_
  refine g_iastI dX0_write_16 rfl (hK).2 ⟨by omega, by omega⟩ ?_
  refine g_aload_n0 dX0_write_17 rfl ?_
  refine g_getr dX0_write_18 rfl fX0_13 hK.1 rfl ?_
  refine g_iload6 dX0_write_21 rfl ?_
  refine g_iconstI dX0_write_23 rfl rfl (fun w23 h23 => ?_)
  refine g_iaddI dX0_write_24 rfl ⟨by omega, by omega⟩ (fun w24 h24 => ?_)
  refine g_iload_n3 dX0_write_25 rfl ?_
  refine g_iastI dX0_write_26 rfl (hK).2 ⟨by omega, by omega⟩ ?_
  refine g_aload_n0 dX0_write_27 rfl ?_
  refine g_getr dX0_write_28 rfl fX0_13 hK.1 rfl ?_
  refine g_iload6 dX0_write_31 rfl ?_
  refine g_iconstI dX0_write_33 rfl rfl (fun w33 h33 => ?_)
  refine g_iaddI dX0_write_34 rfl ⟨by omega, by omega⟩ (fun w34 h34 => ?_)
  refine g_iload4 dX0_write_35 rfl ?_
  refine g_iastI dX0_write_37 rfl (hK).2 ⟨by omega, by omega⟩ ?_
  refine g_aload_n0 dX0_write_38 rfl ?_
  refine g_getr dX0_write_39 rfl fX0_13 hK.1 rfl ?_
  refine g_iload6 dX0_write_42 rfl ?_
  refine g_iconstI dX0_write_44 rfl rfl (fun w44 h44 => ?_)
  refine g_iaddI dX0_write_45 rfl ⟨by omega, by omega⟩ (fun w45 h45 => ?_)
  refine g_iload5 dX0_write_46 rfl ?_
  refine g_iastI dX0_write_48 rfl (hK).2 ⟨by omega, by omega⟩ ?_
  refine g_aload_n0 dX0_write_49 rfl ?_
  refine g_getr dX0_write_50 rfl fX0_13 hK.1 rfl ?_
  refine g_iload6 dX0_write_53 rfl ?_
  refine g_iconstI dX0_write_55 rfl rfl (fun w55 h55 => ?_)
  refine g_iaddI dX0_write_56 rfl ⟨by omega, by omega⟩ (fun w56 h56 => ?_)
  refine g_aload_n1 dX0_write_57 rfl ?_
  refine g_iload_n3 dX0_write_58 rfl ?_
  have q7 : (g_u (g_u (g_u (g_u M (b + 1) w6.toInt.toNat p) (b + 1) w24.toInt.toNat s) (b + 1) w34.toInt.toNat sd) (b + 1) w45.toInt.toNat o).1 (t + 7) = M.1 (t + 7) := by rw [g_u_ne (by omega), g_u_ne (by omega), g_u_ne (by omega), g_u_ne (by omega)]
  have q8 : (g_u (g_u (g_u (g_u M (b + 1) w6.toInt.toNat p) (b + 1) w24.toInt.toNat s) (b + 1) w34.toInt.toNat sd) (b + 1) w45.toInt.toNat o).1 (t + 8) = M.1 (t + 8) := by rw [g_u_ne (by omega), g_u_ne (by omega), g_u_ne (by omega), g_u_ne (by omega)]
  have q9 : (g_u (g_u (g_u (g_u M (b + 1) w6.toInt.toNat p) (b + 1) w24.toInt.toNat s) (b + 1) w34.toInt.toNat sd) (b + 1) w45.toInt.toNat o).1 (t + 9) = M.1 (t + 9) := by rw [g_u_ne (by omega), g_u_ne (by omega), g_u_ne (by omega), g_u_ne (by omega)]
  have q10 : (g_u (g_u (g_u (g_u M (b + 1) w6.toInt.toNat p) (b + 1) w24.toInt.toNat s) (b + 1) w34.toInt.toNat sd) (b + 1) w45.toInt.toNat o).1 (t + 10) = M.1 (t + 10) := by rw [g_u_ne (by omega), g_u_ne (by omega), g_u_ne (by omega), g_u_ne (by omega)]
  refine g_callVi1 dX0_write_59 rfl vX0_23 hT.1 rfl (c_weightOfW hT (TBw.moved hB q7 q8 q9 q10) hs) (g_rm (by omega)) (Nat.le_of_ble_eq_true rfl) (fun z59 M59 e59 => ?_)
  obtain ⟨e59a, e59⟩ := e59
  subst e59a
  rw [wt_moved q7] at e59
  have hwr := wt_rngW (s := s.toInt.toNat) hB
  refine g_iload4 dX0_write_62 rfl ?_
  refine g_iaddI dX0_write_64 rfl ⟨by omega, by omega⟩ (fun w64 h64 => ?_)
  refine g_iastI dX0_write_65 rfl (hK).2 ⟨by omega, by omega⟩ ?_
  refine g_aload_n0 dX0_write_66 rfl ?_
  refine g_getr dX0_write_67 rfl fX0_13 hK.1 rfl ?_
  refine g_iload6 dX0_write_70 rfl ?_
  refine g_iconstI dX0_write_72 rfl rfl (fun w72 h72 => ?_)
  refine g_iaddI dX0_write_73 rfl ⟨by omega, by omega⟩ (fun w73 h73 => ?_)
  refine g_aload_n1 dX0_write_74 rfl ?_
  refine g_getr dX0_write_75 rfl fX0_29 hT.1 rfl ?_
  refine g_iload_n2 dX0_write_78 rfl ?_
  refine g_ialdI dX0_write_79 rfl (tw_owed hT) ⟨by omega, by omega⟩ ?_
  rw [g_u_ne (show t + 4 ≠ b + 1 by omega)]
  rw [g_u_ne (show t + 4 ≠ b + 1 by omega)]
  rw [g_u_ne (show t + 4 ≠ b + 1 by omega)]
  rw [g_u_ne (show t + 4 ≠ b + 1 by omega)]
  rw [g_u_ne (show t + 4 ≠ b + 1 by omega)]
  refine g_iastI dX0_write_80 rfl (hK).2 ⟨by omega, by omega⟩ ?_
  refine g_aload_n0 dX0_write_81 rfl ?_
  refine g_getr dX0_write_82 rfl fX0_13 hK.1 rfl ?_
  refine g_iload6 dX0_write_85 rfl ?_
  refine g_bipushI dX0_write_87 rfl rfl (fun w87 h87 => ?_)
  refine g_iaddI dX0_write_89 rfl ⟨by omega, by omega⟩ (fun w89 h89 => ?_)
  refine g_aload_n1 dX0_write_90 rfl ?_
  refine g_getr dX0_write_91 rfl fX0_32 hT.1 rfl ?_
  refine g_iload_n2 dX0_write_94 rfl ?_
  refine g_ialdI dX0_write_95 rfl (tw_owedTo hT) ⟨by omega, by omega⟩ ?_
  rw [g_u_ne (show t + 5 ≠ b + 1 by omega)]
  rw [g_u_ne (show t + 5 ≠ b + 1 by omega)]
  rw [g_u_ne (show t + 5 ≠ b + 1 by omega)]
  rw [g_u_ne (show t + 5 ≠ b + 1 by omega)]
  rw [g_u_ne (show t + 5 ≠ b + 1 by omega)]
  rw [g_u_ne (show t + 5 ≠ b + 1 by omega)]
  refine g_iastI dX0_write_96 rfl (hK).2 ⟨by omega, by omega⟩ ?_
  refine g_aload_n0 dX0_write_97 rfl ?_
  refine g_getr dX0_write_98 rfl fX0_13 hK.1 rfl ?_
  refine g_iload6 dX0_write_101 rfl ?_
  refine g_bipushI dX0_write_103 rfl rfl (fun w103 h103 => ?_)
  refine g_iaddI dX0_write_105 rfl ⟨by omega, by omega⟩ (fun w105 h105 => ?_)
  refine g_aload_n1 dX0_write_106 rfl ?_
  refine g_getr dX0_write_107 rfl fX0_29 hT.1 rfl ?_
  refine g_iload5 dX0_write_110 rfl ?_
  refine g_ialdI dX0_write_112 rfl (tw_owed hT) ⟨by omega, by omega⟩ ?_
  rw [g_u_ne (show t + 4 ≠ b + 1 by omega)]
  rw [g_u_ne (show t + 4 ≠ b + 1 by omega)]
  rw [g_u_ne (show t + 4 ≠ b + 1 by omega)]
  rw [g_u_ne (show t + 4 ≠ b + 1 by omega)]
  rw [g_u_ne (show t + 4 ≠ b + 1 by omega)]
  rw [g_u_ne (show t + 4 ≠ b + 1 by omega)]
  rw [g_u_ne (show t + 4 ≠ b + 1 by omega)]
  refine g_iastI dX0_write_113 rfl (hK).2 ⟨by omega, by omega⟩ ?_
  refine g_aload_n0 dX0_write_114 rfl ?_
  refine g_getr dX0_write_115 rfl fX0_13 hK.1 rfl ?_
  refine g_iload6 dX0_write_118 rfl ?_
  refine g_bipushI dX0_write_120 rfl rfl (fun w120 h120 => ?_)
  refine g_iaddI dX0_write_122 rfl ⟨by omega, by omega⟩ (fun w122 h122 => ?_)
  refine g_aload_n1 dX0_write_123 rfl ?_
  refine g_getr dX0_write_124 rfl fX0_32 hT.1 rfl ?_
  refine g_iload5 dX0_write_127 rfl ?_
  refine g_ialdI dX0_write_129 rfl (tw_owedTo hT) ⟨by omega, by omega⟩ ?_
  rw [g_u_ne (show t + 5 ≠ b + 1 by omega)]
  rw [g_u_ne (show t + 5 ≠ b + 1 by omega)]
  rw [g_u_ne (show t + 5 ≠ b + 1 by omega)]
  rw [g_u_ne (show t + 5 ≠ b + 1 by omega)]
  rw [g_u_ne (show t + 5 ≠ b + 1 by omega)]
  rw [g_u_ne (show t + 5 ≠ b + 1 by omega)]
  rw [g_u_ne (show t + 5 ≠ b + 1 by omega)]
  rw [g_u_ne (show t + 5 ≠ b + 1 by omega)]
  refine g_iastI dX0_write_130 rfl (hK).2 ⟨by omega, by omega⟩ ?_
  refine g_aload_n0 dX0_write_131 rfl ?_
  refine g_dup dX0_write_132 rfl rfl ?_
  refine g_geti dX0_write_133 rfl fX0_7 hK.1 rfl ?_
  rw [g_u_ne (show b ≠ b + 1 by omega)]
  rw [g_u_ne (show b ≠ b + 1 by omega)]
  rw [g_u_ne (show b ≠ b + 1 by omega)]
  rw [g_u_ne (show b ≠ b + 1 by omega)]
  rw [g_u_ne (show b ≠ b + 1 by omega)]
  rw [g_u_ne (show b ≠ b + 1 by omega)]
  rw [g_u_ne (show b ≠ b + 1 by omega)]
  rw [g_u_ne (show b ≠ b + 1 by omega)]
  rw [g_u_ne (show b ≠ b + 1 by omega)]
  refine g_iconstI dX0_write_136 rfl rfl (fun w136 h136 => ?_)
  refine g_iaddI dX0_write_137 rfl ⟨by omega, by omega⟩ (fun w137 h137 => ?_)
  refine g_put dX0_write_138 rfl fX0_7 hK.1 rfl rfl rfl ?_
  refine g_vret dX0_write_141 rfl ?_
  refine ⟨rfl, w64, by omega, fun j h1 h2 => ?_, rfl, ?_, fun j hj => ?_, fun k hk => ?_⟩
  · rw [g_u_ne h1, g_u_ne h2, g_u_ne h2, g_u_ne h2, g_u_ne h2, g_u_ne h2, g_u_ne h2, g_u_ne h2, g_u_ne h2, g_u_ne h2]
  · rw [g_u_eq, if_pos rfl]; omega
  · rw [g_u_ne (show b + 1 ≠ b by omega)]
    simp only [g_u_eq]
    rw [wrRow]
    rcases (show j = 0 ∨ j = 1 ∨ j = 2 ∨ j = 3 ∨ j = 4 ∨ j = 5 ∨ j = 6 ∨ j = 7 ∨ j = 8 by omega) with rfl | rfl | rfl | rfl | rfl | rfl | rfl | rfl | rfl
    · rw [if_neg (by omega), if_neg (by omega), if_neg (by omega), if_neg (by omega), if_neg (by omega), if_neg (by omega), if_neg (by omega), if_neg (by omega), if_pos (by omega)]; rfl
    · rw [if_neg (by omega), if_neg (by omega), if_neg (by omega), if_neg (by omega), if_neg (by omega), if_neg (by omega), if_neg (by omega), if_pos (by omega)]; rfl
    · rw [if_neg (by omega), if_neg (by omega), if_neg (by omega), if_neg (by omega), if_neg (by omega), if_neg (by omega), if_pos (by omega)]; rfl
    · rw [if_neg (by omega), if_neg (by omega), if_neg (by omega), if_neg (by omega), if_neg (by omega), if_pos (by omega)]; rfl
    · rw [if_neg (by omega), if_neg (by omega), if_neg (by omega), if_neg (by omega), if_pos (by omega)]; rfl
    · rw [if_neg (by omega), if_neg (by omega), if_neg (by omega), if_pos (by omega)]; rfl
    · rw [if_neg (by omega), if_neg (by omega), if_pos (by omega)]; rfl
    · rw [if_neg (by omega), if_pos (by omega)]; rfl
    · rw [if_pos (by omega)]; rfl
  · rw [g_u_ne (show b + 1 ≠ b by omega)]
    simp only [g_u_eq]
    rw [if_neg (by omega), if_neg (by omega), if_neg (by omega), if_neg (by omega), if_neg (by omega), if_neg (by omega), if_neg (by omega), if_neg (by omega), if_neg (by omega)]
/-- the last gift taken back: the town's memory -/
def backM (M : gM) (b t n : Nat) (n1 : Int32) : gM :=
  let r := fun j => M.1 (b + 1) (n * 9 + j)
  let g := (r 0).toInt.toNat
  let k := (r 3).toInt.toNat
  let A := handM (g_u M b 0 n1) t k (r 1) (r 2) g
  g_u (g_u (g_u (g_u A (t + 4) g (r 5)) (t + 5) g (r 6)) (t + 4) k (r 7)) (t + 5) k (r 8)
set_option maxHeartbeats 4000000 in
theorem c_bkBack {Γ : gW} {b t : Nat} {M : gM} (hK : g_Book Γ b) (hT : g_Town Γ t) (hdj : b + 1 < t ∨ t + 10 < b) (hgi : 0 < (M.1 b 0).toInt ∧ (M.1 b 0).toInt ≤ 200) (hr0 : 0 ≤ (M.1 (b + 1) (((M.1 b 0).toInt - 1).toNat * 9 + 0)).toInt ∧ (M.1 (b + 1) (((M.1 b 0).toInt - 1).toNat * 9 + 0)).toInt < 6) (hr3 : 0 ≤ (M.1 (b + 1) (((M.1 b 0).toInt - 1).toNat * 9 + 3)).toInt ∧ (M.1 (b + 1) (((M.1 b 0).toInt - 1).toNat * 9 + 3)).toInt < 6)  : Ct Γ yX0_takeBackLast μX0_takeBackLast 1 [.ref b, .ref t] M (g_qv (fun M1 => ∃ n1 : Int32, n1.toInt = (M.1 b 0).toInt - 1 ∧ M1 = backM M b t ((M.1 b 0).toInt - 1).toNat n1)) := by
  refine g_enter rfl rfl rfl (Nat.le_of_ble_eq_true rfl) ?_
  show G Γ _ _ _ _ 0 [some (.ref b), some (.ref t), none, none, none] [] M
  refine g_aload_n0 dX0_takeBackLast_0 rfl ?_
  refine g_dup dX0_takeBackLast_1 rfl rfl ?_
  refine g_geti dX0_takeBackLast_2 rfl fX0_7 hK.1 rfl ?_
  refine g_iconstI dX0_takeBackLast_5 rfl rfl (fun w5 h5 => ?_)
  refine g_isubI dX0_takeBackLast_6 rfl ⟨by omega, by omega⟩ (fun w6 h6 => ?_)
  refine g_put dX0_takeBackLast_7 rfl fX0_7 hK.1 rfl rfl rfl ?_
  refine g_aload_n0 dX0_takeBackLast_10 rfl ?_
  refine g_geti dX0_takeBackLast_11 rfl fX0_7 hK.1 rfl ?_
  rw [g_u_eq, if_pos (show (0 : Nat) = 0 from rfl)]
  refine g_bipushI dX0_takeBackLast_14 rfl rfl (fun w14 h14 => ?_)
  refine g_imulI dX0_takeBackLast_16 rfl ⟨by rw [h14]; omega, by rw [h14]; omega⟩ (fun w16 h16 => ?_)
  rw [h14] at h16
  refine g_istore_n2 dX0_takeBackLast_17 rfl rfl ?_
  refine g_aload_n0 dX0_takeBackLast_18 rfl ?_
  refine g_getr dX0_takeBackLast_19 rfl fX0_13 hK.1 rfl ?_
  refine g_iload_n2 dX0_takeBackLast_22 rfl ?_
  refine g_ialdI dX0_takeBackLast_23 rfl (hK).2 ⟨by omega, by omega⟩ ?_
  rw [g_u_ne (show b + 1 ≠ b by omega)]
  rw [show w16.toInt.toNat = ((M.1 b 0).toInt - 1).toNat * 9 + 0 by omega]
  refine g_istore_n3 dX0_takeBackLast_24 rfl rfl ?_
  refine g_aload_n0 dX0_takeBackLast_25 rfl ?_
  refine g_getr dX0_takeBackLast_26 rfl fX0_13 hK.1 rfl ?_
  refine g_iload_n2 dX0_takeBackLast_29 rfl ?_
  refine g_iconstI dX0_takeBackLast_30 rfl rfl (fun w30 h30 => ?_)
  refine g_iaddI dX0_takeBackLast_31 rfl ⟨by omega, by omega⟩ (fun w31 h31 => ?_)
  refine g_ialdI dX0_takeBackLast_32 rfl (hK).2 ⟨by omega, by omega⟩ ?_
  rw [g_u_ne (show b + 1 ≠ b by omega)]
  rw [show w31.toInt.toNat = ((M.1 b 0).toInt - 1).toNat * 9 + 3 by omega]
  refine g_istore4 dX0_takeBackLast_33 rfl rfl ?_
  refine g_aload_n1 dX0_takeBackLast_35 rfl ?_
  refine g_iload4 dX0_takeBackLast_36 rfl ?_
  refine g_aload_n0 dX0_takeBackLast_38 rfl ?_
  refine g_getr dX0_takeBackLast_39 rfl fX0_13 hK.1 rfl ?_
  refine g_iload_n2 dX0_takeBackLast_42 rfl ?_
  refine g_iconstI dX0_takeBackLast_43 rfl rfl (fun w43 h43 => ?_)
  refine g_iaddI dX0_takeBackLast_44 rfl ⟨by omega, by omega⟩ (fun w44 h44 => ?_)
  refine g_ialdI dX0_takeBackLast_45 rfl (hK).2 ⟨by omega, by omega⟩ ?_
  rw [g_u_ne (show b + 1 ≠ b by omega)]
  rw [show w44.toInt.toNat = ((M.1 b 0).toInt - 1).toNat * 9 + 1 by omega]
  refine g_aload_n0 dX0_takeBackLast_46 rfl ?_
  refine g_getr dX0_takeBackLast_47 rfl fX0_13 hK.1 rfl ?_
  refine g_iload_n2 dX0_takeBackLast_50 rfl ?_
  refine g_iconstI dX0_takeBackLast_51 rfl rfl (fun w51 h51 => ?_)
  refine g_iaddI dX0_takeBackLast_52 rfl ⟨by omega, by omega⟩ (fun w52 h52 => ?_)
  refine g_ialdI dX0_takeBackLast_53 rfl (hK).2 ⟨by omega, by omega⟩ ?_
  rw [g_u_ne (show b + 1 ≠ b by omega)]
  rw [show w52.toInt.toNat = ((M.1 b 0).toInt - 1).toNat * 9 + 2 by omega]
  refine g_iload_n3 dX0_takeBackLast_54 rfl ?_
  refine g_callVv4 dX0_takeBackLast_55 rfl vX0_35 hT.1 rfl (c_hand hT hr3 hr0) (g_rm (by omega)) (Nat.le_of_ble_eq_true rfl) (fun M55 e55 => ?_)
  subst e55
  refine g_aload_n1 dX0_takeBackLast_58 rfl ?_
  refine g_getr dX0_takeBackLast_59 rfl fX0_29 hT.1 rfl ?_
  refine g_iload_n3 dX0_takeBackLast_62 rfl ?_
  refine g_aload_n0 dX0_takeBackLast_63 rfl ?_
  refine g_getr dX0_takeBackLast_64 rfl fX0_13 hK.1 rfl ?_
  refine g_iload_n2 dX0_takeBackLast_67 rfl ?_
  refine g_iconstI dX0_takeBackLast_68 rfl rfl (fun w68 h68 => ?_)
  refine g_iaddI dX0_takeBackLast_69 rfl ⟨by omega, by omega⟩ (fun w69 h69 => ?_)
  refine g_ialdI dX0_takeBackLast_70 rfl (hK).2 ⟨by omega, by omega⟩ ?_
  rw [handM_ne (by omega) (by omega), g_u_ne (show b + 1 ≠ b by omega)]
  rw [show w69.toInt.toNat = ((M.1 b 0).toInt - 1).toNat * 9 + 5 by omega]
  refine g_iastI dX0_takeBackLast_71 rfl (tw_owed hT) ⟨by omega, by omega⟩ ?_
  refine g_aload_n1 dX0_takeBackLast_72 rfl ?_
  refine g_getr dX0_takeBackLast_73 rfl fX0_32 hT.1 rfl ?_
  refine g_iload_n3 dX0_takeBackLast_76 rfl ?_
  refine g_aload_n0 dX0_takeBackLast_77 rfl ?_
  refine g_getr dX0_takeBackLast_78 rfl fX0_13 hK.1 rfl ?_
  refine g_iload_n2 dX0_takeBackLast_81 rfl ?_
  refine g_bipushI dX0_takeBackLast_82 rfl rfl (fun w82 h82 => ?_)
  refine g_iaddI dX0_takeBackLast_84 rfl ⟨by omega, by omega⟩ (fun w84 h84 => ?_)
  refine g_ialdI dX0_takeBackLast_85 rfl (hK).2 ⟨by omega, by omega⟩ ?_
  rw [g_u_ne (show b + 1 ≠ t + 4 by omega)]
  rw [handM_ne (by omega) (by omega), g_u_ne (show b + 1 ≠ b by omega)]
  rw [show w84.toInt.toNat = ((M.1 b 0).toInt - 1).toNat * 9 + 6 by omega]
  refine g_iastI dX0_takeBackLast_86 rfl (tw_owedTo hT) ⟨by omega, by omega⟩ ?_
  refine g_aload_n1 dX0_takeBackLast_87 rfl ?_
  refine g_getr dX0_takeBackLast_88 rfl fX0_29 hT.1 rfl ?_
  refine g_iload4 dX0_takeBackLast_91 rfl ?_
  refine g_aload_n0 dX0_takeBackLast_93 rfl ?_
  refine g_getr dX0_takeBackLast_94 rfl fX0_13 hK.1 rfl ?_
  refine g_iload_n2 dX0_takeBackLast_97 rfl ?_
  refine g_bipushI dX0_takeBackLast_98 rfl rfl (fun w98 h98 => ?_)
  refine g_iaddI dX0_takeBackLast_100 rfl ⟨by omega, by omega⟩ (fun w100 h100 => ?_)
  refine g_ialdI dX0_takeBackLast_101 rfl (hK).2 ⟨by omega, by omega⟩ ?_
  rw [g_u_ne (show b + 1 ≠ t + 5 by omega)]
  rw [g_u_ne (show b + 1 ≠ t + 4 by omega)]
  rw [handM_ne (by omega) (by omega), g_u_ne (show b + 1 ≠ b by omega)]
  rw [show w100.toInt.toNat = ((M.1 b 0).toInt - 1).toNat * 9 + 7 by omega]
  refine g_iastI dX0_takeBackLast_102 rfl (tw_owed hT) ⟨by omega, by omega⟩ ?_
  refine g_aload_n1 dX0_takeBackLast_103 rfl ?_
  refine g_getr dX0_takeBackLast_104 rfl fX0_32 hT.1 rfl ?_
  refine g_iload4 dX0_takeBackLast_107 rfl ?_
  refine g_aload_n0 dX0_takeBackLast_109 rfl ?_
  refine g_getr dX0_takeBackLast_110 rfl fX0_13 hK.1 rfl ?_
  refine g_iload_n2 dX0_takeBackLast_113 rfl ?_
  refine g_bipushI dX0_takeBackLast_114 rfl rfl (fun w114 h114 => ?_)
  refine g_iaddI dX0_takeBackLast_116 rfl ⟨by omega, by omega⟩ (fun w116 h116 => ?_)
  refine g_ialdI dX0_takeBackLast_117 rfl (hK).2 ⟨by omega, by omega⟩ ?_
  rw [g_u_ne (show b + 1 ≠ t + 4 by omega)]
  rw [g_u_ne (show b + 1 ≠ t + 5 by omega)]
  rw [g_u_ne (show b + 1 ≠ t + 4 by omega)]
  rw [handM_ne (by omega) (by omega), g_u_ne (show b + 1 ≠ b by omega)]
  rw [show w116.toInt.toNat = ((M.1 b 0).toInt - 1).toNat * 9 + 8 by omega]
  refine g_iastI dX0_takeBackLast_118 rfl (tw_owedTo hT) ⟨by omega, by omega⟩ ?_
  refine g_vret dX0_takeBackLast_119 rfl ?_
  exact ⟨rfl, w6, by omega, rfl⟩
