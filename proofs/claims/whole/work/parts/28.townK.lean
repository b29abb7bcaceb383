def lenT (a : Nat) : Nat := if a ≤ 6 then 6 else if a ≤ 8 then 12 else 64
/-- town t is a copy of town t2 now; nothing else has changed -/
def CP (M M1 : gM) (t t2 : Nat) : Prop := (∀ j, (j < t ∨ t + 10 < j) → M1.1 j = M.1 j) ∧ M1.2 = M.2 ∧ ∀ a, a ≤ 10 → ∀ k, k < lenT a → M1.1 (t + a) k = M.1 (t2 + a) k
def cpI (M M' : gM) (t t2 i : Nat) : Prop := (∀ j, (j < t ∨ t + 6 < j) → M'.1 j = M.1 j) ∧ M'.2 = M.2 ∧ (∀ k, k < 6 → M'.1 t k = M.1 t2 k) ∧ ∀ a, 1 ≤ a → a ≤ 6 → ∀ k, k < i → M'.1 (t + a) k = M.1 (t2 + a) k
def cpJ (M M' : gM) (t t2 i : Nat) : Prop := (∀ j, (j < t ∨ t + 8 < j) → M'.1 j = M.1 j) ∧ M'.2 = M.2 ∧ (∀ k, k < 6 → M'.1 t k = M.1 t2 k) ∧ (∀ a, 1 ≤ a → a ≤ 6 → ∀ k, k < 6 → M'.1 (t + a) k = M.1 (t2 + a) k) ∧ ∀ a, 7 ≤ a → a ≤ 8 → ∀ k, k < i → M'.1 (t + a) k = M.1 (t2 + a) k
theorem cp_step {M M' : gM} {t t2 i : Nat} (hdj : t + 10 < t2 ∨ t2 + 10 < t) (h : cpI M M' t t2 i) : cpI M (g_u (g_u (g_u (g_u (g_u (g_u M' (t + 1) i (M'.1 (t2 + 1) i)) (t + 2) i (M'.1 (t2 + 2) i)) (t + 3) i (M'.1 (t2 + 3) i)) (t + 4) i (M'.1 (t2 + 4) i)) (t + 5) i (M'.1 (t2 + 5) i)) (t + 6) i (M'.1 (t2 + 6) i)) t t2 (i + 1) := by
  obtain ⟨h1, h2, h3, h4⟩ := h
  refine ⟨fun j hj => ?_, h2, fun k hk => ?_, fun a ha1 ha2 k hk => ?_⟩
  · rw [g_u_ne (by omega), g_u_ne (by omega), g_u_ne (by omega), g_u_ne (by omega), g_u_ne (by omega), g_u_ne (by omega)]
    exact h1 j hj
  · rw [g_u_ne (by omega), g_u_ne (by omega), g_u_ne (by omega), g_u_ne (by omega), g_u_ne (by omega), g_u_ne (by omega)]
    exact h3 k hk
  · have e : M'.1 (t2 + a) = M.1 (t2 + a) := h1 _ (by omega)
    by_cases hki : k = i
    · subst hki
      rcases (show a = 1 ∨ a = 2 ∨ a = 3 ∨ a = 4 ∨ a = 5 ∨ a = 6 by omega) with rfl | rfl | rfl | rfl | rfl | rfl <;> simp [g_u, e]
    · have := h4 a ha1 ha2 k (by omega)
      simp only [g_u, hki, and_false, if_false]
      exact this
theorem cp_step2 {M M' : gM} {t t2 i : Nat} (hdj : t + 10 < t2 ∨ t2 + 10 < t) (h : cpJ M M' t t2 i) : cpJ M (g_u (g_u M' (t + 7) i (M'.1 (t2 + 7) i)) (t + 8) i (M'.1 (t2 + 8) i)) t t2 (i + 1) := by
  obtain ⟨h1, h2, h3, h4, h5⟩ := h
  refine ⟨fun j hj => ?_, h2, fun k hk => ?_, fun a ha1 ha2 k hk => ?_, fun a ha1 ha2 k hk => ?_⟩
  · rw [g_u_ne (by omega), g_u_ne (by omega)]
    exact h1 j hj
  · rw [g_u_ne (by omega), g_u_ne (by omega)]
    exact h3 k hk
  · rw [g_u_ne (by omega), g_u_ne (by omega)]
    exact h4 a ha1 ha2 k hk
  · have e : M'.1 (t2 + a) = M.1 (t2 + a) := h1 _ (by omega)
    by_cases hki : k = i
    · subst hki
      rcases (show a = 7 ∨ a = 8 by omega) with rfl | rfl <;> simp [g_u, e]
    · have := h5 a ha1 ha2 k (by omega)
      simp only [g_u, hki, and_false, if_false]
      exact this
set_option maxHeartbeats 4000000 in
theorem l_copy1 {Γ : gW} {t t2 : Nat} {M0 : gM} (hT : g_Town Γ t) (hT2 : g_Town Γ t2) (hdj : t + 10 < t2 ∨ t2 + 10 < t) {Q : Option Value → gM → Prop} (hk : ∀ M : gM, cpI M0 M t t2 6 → ∀ i : Int32, G Γ μX3_copyFrom (g_R 0) (0, 0) (g_Z Γ Q) 134 [some (.ref t), some (.ref t2), some (.int i)] [] M) : ∀ (n : Nat) (i : Int32) (M : gM), 6 - i.toInt.toNat = n → 0 ≤ i.toInt → i.toInt ≤ 6 → cpI M0 M t t2 i.toInt.toNat → G Γ μX3_copyFrom (g_R 0) (0, 0) (g_Z Γ Q) 50 [some (.ref t), some (.ref t2), some (.int i)] [] M := by
  intro n
  induction n using Nat.strongRecOn with
  | ind n ih =>
    intro i M hn hi0 hi1 hc
    refine g_iload_n2 dX3_copyFrom_50 rfl ?_
    refine g_bipushI dX3_copyFrom_51 rfl rfl (fun w51 h51 => ?_)
    refine g_icmp_geI (t := 134) dX3_copyFrom_53 (by decide) rfl (fun c53 => ?_) (fun c53 => ?_)
    · -- 53 t
      exact hk M (by rw [show 6 = i.toInt.toNat by omega]; exact hc) i
    · -- 53 f
      refine g_aload_n0 dX3_copyFrom_56 rfl ?_
      refine g_getr dX3_copyFrom_57 rfl fX3_30 hT.1 rfl ?_
      refine g_iload_n2 dX3_copyFrom_60 rfl ?_
      refine g_aload_n1 dX3_copyFrom_61 rfl ?_
      refine g_getr dX3_copyFrom_62 rfl fX3_30 hT2.1 rfl ?_
      refine g_iload_n2 dX3_copyFrom_65 rfl ?_
      refine g_ialdI dX3_copyFrom_66 rfl (tw_kind hT2) ⟨by omega, by omega⟩ ?_
      refine g_iastI dX3_copyFrom_67 rfl (tw_kind hT) ⟨by omega, by omega⟩ ?_
      refine g_aload_n0 dX3_copyFrom_68 rfl ?_
      refine g_getr dX3_copyFrom_69 rfl fX3_34 hT.1 rfl ?_
      refine g_iload_n2 dX3_copyFrom_72 rfl ?_
      refine g_aload_n1 dX3_copyFrom_73 rfl ?_
      refine g_getr dX3_copyFrom_74 rfl fX3_34 hT2.1 rfl ?_
      refine g_iload_n2 dX3_copyFrom_77 rfl ?_
      refine g_ialdI dX3_copyFrom_78 rfl (tw_goal hT2) ⟨by omega, by omega⟩ ?_
      rw [g_u_ne (show t2 + 2 ≠ t + 1 by omega)]
      refine g_iastI dX3_copyFrom_79 rfl (tw_goal hT) ⟨by omega, by omega⟩ ?_
      refine g_aload_n0 dX3_copyFrom_80 rfl ?_
      refine g_getr dX3_copyFrom_81 rfl fX3_37 hT.1 rfl ?_
      refine g_iload_n2 dX3_copyFrom_84 rfl ?_
      refine g_aload_n1 dX3_copyFrom_85 rfl ?_
      refine g_getr dX3_copyFrom_86 rfl fX3_37 hT2.1 rfl ?_
      refine g_iload_n2 dX3_copyFrom_89 rfl ?_
      refine g_ialdI dX3_copyFrom_90 rfl (tw_sand hT2) ⟨by omega, by omega⟩ ?_
      rw [g_u_ne (show t2 + 3 ≠ t + 2 by omega)]
      rw [g_u_ne (show t2 + 3 ≠ t + 1 by omega)]
      refine g_iastI dX3_copyFrom_91 rfl (tw_sand hT) ⟨by omega, by omega⟩ ?_
      refine g_aload_n0 dX3_copyFrom_92 rfl ?_
      refine g_getr dX3_copyFrom_93 rfl fX3_40 hT.1 rfl ?_
      refine g_iload_n2 dX3_copyFrom_96 rfl ?_
      refine g_aload_n1 dX3_copyFrom_97 rfl ?_
      refine g_getr dX3_copyFrom_98 rfl fX3_40 hT2.1 rfl ?_
      refine g_iload_n2 dX3_copyFrom_101 rfl ?_
      refine g_ialdI dX3_copyFrom_102 rfl (tw_owed hT2) ⟨by omega, by omega⟩ ?_
      rw [g_u_ne (show t2 + 4 ≠ t + 3 by omega)]
      rw [g_u_ne (show t2 + 4 ≠ t + 2 by omega)]
      rw [g_u_ne (show t2 + 4 ≠ t + 1 by omega)]
      refine g_iastI dX3_copyFrom_103 rfl (tw_owed hT) ⟨by omega, by omega⟩ ?_
      refine g_aload_n0 dX3_copyFrom_104 rfl ?_
      refine g_getr dX3_copyFrom_105 rfl fX3_43 hT.1 rfl ?_
      refine g_iload_n2 dX3_copyFrom_108 rfl ?_
      refine g_aload_n1 dX3_copyFrom_109 rfl ?_
      refine g_getr dX3_copyFrom_110 rfl fX3_43 hT2.1 rfl ?_
      refine g_iload_n2 dX3_copyFrom_113 rfl ?_
      refine g_ialdI dX3_copyFrom_114 rfl (tw_owedTo hT2) ⟨by omega, by omega⟩ ?_
      rw [g_u_ne (show t2 + 5 ≠ t + 4 by omega)]
      rw [g_u_ne (show t2 + 5 ≠ t + 3 by omega)]
      rw [g_u_ne (show t2 + 5 ≠ t + 2 by omega)]
      rw [g_u_ne (show t2 + 5 ≠ t + 1 by omega)]
      refine g_iastI dX3_copyFrom_115 rfl (tw_owedTo hT) ⟨by omega, by omega⟩ ?_
      refine g_aload_n0 dX3_copyFrom_116 rfl ?_
      refine g_getr dX3_copyFrom_117 rfl fX3_46 hT.1 rfl ?_
      refine g_iload_n2 dX3_copyFrom_120 rfl ?_
      refine g_aload_n1 dX3_copyFrom_121 rfl ?_
      refine g_getr dX3_copyFrom_122 rfl fX3_46 hT2.1 rfl ?_
      refine g_iload_n2 dX3_copyFrom_125 rfl ?_
      refine g_ialdI dX3_copyFrom_126 rfl (tw_has hT2) ⟨by omega, by omega⟩ ?_
      rw [g_u_ne (show t2 + 6 ≠ t + 5 by omega)]
      rw [g_u_ne (show t2 + 6 ≠ t + 4 by omega)]
      rw [g_u_ne (show t2 + 6 ≠ t + 3 by omega)]
      rw [g_u_ne (show t2 + 6 ≠ t + 2 by omega)]
      rw [g_u_ne (show t2 + 6 ≠ t + 1 by omega)]
      refine g_iastI dX3_copyFrom_127 rfl (tw_has hT) ⟨by omega, by omega⟩ ?_
      refine g_iincI2 dX3_copyFrom_128 rfl rfl rfl ⟨by omega, by omega⟩ (fun w128 h128 => ?_)
      refine g_goto (t := 50) dX3_copyFrom_131 (by decide) ?_
      exact ih _ (by omega) _ _ rfl (by omega) (by omega) (by rw [h128, show (i.toInt + 1).toNat = i.toInt.toNat + 1 by omega]; exact cp_step hdj hc)
set_option maxHeartbeats 4000000 in
theorem l_copy2 {Γ : gW} {t t2 : Nat} {M0 : gM} (hT : g_Town Γ t) (hT2 : g_Town Γ t2) (hdj : t + 10 < t2 ∨ t2 + 10 < t) {Q : Option Value → gM → Prop} (hk : ∀ M : gM, cpJ M0 M t t2 12 → ∀ i : Int32, G Γ μX3_copyFrom (g_R 0) (0, 0) (g_Z Γ Q) 172 [some (.ref t), some (.ref t2), some (.int i)] [] M) : ∀ (n : Nat) (i : Int32) (M : gM), 12 - i.toInt.toNat = n → 0 ≤ i.toInt → i.toInt ≤ 12 → cpJ M0 M t t2 i.toInt.toNat → G Γ μX3_copyFrom (g_R 0) (0, 0) (g_Z Γ Q) 136 [some (.ref t), some (.ref t2), some (.int i)] [] M := by
  intro n
  induction n using Nat.strongRecOn with
  | ind n ih =>
    intro i M hn hi0 hi1 hc
    refine g_iload_n2 dX3_copyFrom_136 rfl ?_
    refine g_bipushI dX3_copyFrom_137 rfl rfl (fun w137 h137 => ?_)
    refine g_icmp_geI (t := 172) dX3_copyFrom_139 (by decide) rfl (fun c139 => ?_) (fun c139 => ?_)
    · -- 139 t
      exact hk M (by rw [show 12 = i.toInt.toNat by omega]; exact hc) i
    · -- 139 f
      refine g_aload_n0 dX3_copyFrom_142 rfl ?_
      refine g_getr dX3_copyFrom_143 rfl fX3_49 hT.1 rfl ?_
      refine g_iload_n2 dX3_copyFrom_146 rfl ?_
      refine g_aload_n1 dX3_copyFrom_147 rfl ?_
      refine g_getr dX3_copyFrom_148 rfl fX3_49 hT2.1 rfl ?_
      refine g_iload_n2 dX3_copyFrom_151 rfl ?_
      refine g_ialdI dX3_copyFrom_152 rfl (tw_weight hT2) ⟨by omega, by omega⟩ ?_
      refine g_iastI dX3_copyFrom_153 rfl (tw_weight hT) ⟨by omega, by omega⟩ ?_
      refine g_aload_n0 dX3_copyFrom_154 rfl ?_
      refine g_getr dX3_copyFrom_155 rfl fX3_52 hT.1 rfl ?_
      refine g_iload_n2 dX3_copyFrom_158 rfl ?_
      refine g_aload_n1 dX3_copyFrom_159 rfl ?_
      refine g_getr dX3_copyFrom_160 rfl fX3_52 hT2.1 rfl ?_
      refine g_iload_n2 dX3_copyFrom_163 rfl ?_
      refine g_ialdI dX3_copyFrom_164 rfl (tw_worth hT2) ⟨by omega, by omega⟩ ?_
      rw [g_u_ne (show t2 + 8 ≠ t + 7 by omega)]
      refine g_iastI dX3_copyFrom_165 rfl (tw_worth hT) ⟨by omega, by omega⟩ ?_
      refine g_iincI2 dX3_copyFrom_166 rfl rfl rfl ⟨by omega, by omega⟩ (fun w166 h166 => ?_)
      refine g_goto (t := 136) dX3_copyFrom_169 (by decide) ?_
      exact ih _ (by omega) _ _ rfl (by omega) (by omega) (by rw [h166, show (i.toInt + 1).toNat = i.toInt.toNat + 1 by omega]; exact cp_step2 hdj hc)
set_option maxHeartbeats 4000000 in
theorem c_copyFrom {Γ : gW} {t t2 : Nat} {M : gM} (hT : g_Town Γ t) (hT2 : g_Town Γ t2) (hdj : t + 10 < t2 ∨ t2 + 10 < t)  : Ct Γ yX3_copyFrom μX3_copyFrom 0 [.ref t, .ref t2] M (g_qv (fun M1 => CP M M1 t t2)) := by
  refine g_enter rfl rfl rfl (Nat.le_of_ble_eq_true rfl) ?_
  show G Γ _ _ _ _ 0 [some (.ref t), some (.ref t2), none] [] M
  refine g_aload_n0 dX3_copyFrom_0 rfl ?_
  refine g_aload_n1 dX3_copyFrom_1 rfl ?_
  refine g_geti dX3_copyFrom_2 rfl fX3_9 hT2.1 rfl ?_
  refine g_put dX3_copyFrom_5 rfl fX3_9 hT.1 rfl rfl rfl ?_
  refine g_aload_n0 dX3_copyFrom_8 rfl ?_
  refine g_aload_n1 dX3_copyFrom_9 rfl ?_
  refine g_geti dX3_copyFrom_10 rfl fX3_15 hT2.1 rfl ?_
  rw [g_u_ne (show t2 ≠ t by omega)]
  refine g_put dX3_copyFrom_13 rfl fX3_15 hT.1 rfl rfl rfl ?_
  refine g_aload_n0 dX3_copyFrom_16 rfl ?_
  refine g_aload_n1 dX3_copyFrom_17 rfl ?_
  refine g_geti dX3_copyFrom_18 rfl fX3_18 hT2.1 rfl ?_
  rw [g_u_ne (show t2 ≠ t by omega)]
  rw [g_u_ne (show t2 ≠ t by omega)]
  refine g_put dX3_copyFrom_21 rfl fX3_18 hT.1 rfl rfl rfl ?_
  refine g_aload_n0 dX3_copyFrom_24 rfl ?_
  refine g_aload_n1 dX3_copyFrom_25 rfl ?_
  refine g_geti dX3_copyFrom_26 rfl fX3_21 hT2.1 rfl ?_
  rw [g_u_ne (show t2 ≠ t by omega)]
  rw [g_u_ne (show t2 ≠ t by omega)]
  rw [g_u_ne (show t2 ≠ t by omega)]
  refine g_put dX3_copyFrom_29 rfl fX3_21 hT.1 rfl rfl rfl ?_
  refine g_aload_n0 dX3_copyFrom_32 rfl ?_
  refine g_aload_n1 dX3_copyFrom_33 rfl ?_
  refine g_geti dX3_copyFrom_34 rfl fX3_24 hT2.1 rfl ?_
  rw [g_u_ne (show t2 ≠ t by omega)]
  rw [g_u_ne (show t2 ≠ t by omega)]
  rw [g_u_ne (show t2 ≠ t by omega)]
  rw [g_u_ne (show t2 ≠ t by omega)]
  refine g_put dX3_copyFrom_37 rfl fX3_24 hT.1 rfl rfl rfl ?_
  refine g_aload_n0 dX3_copyFrom_40 rfl ?_
  refine g_aload_n1 dX3_copyFrom_41 rfl ?_
  refine g_geti dX3_copyFrom_42 rfl fX3_27 hT2.1 rfl ?_
  rw [g_u_ne (show t2 ≠ t by omega)]
  rw [g_u_ne (show t2 ≠ t by omega)]
  rw [g_u_ne (show t2 ≠ t by omega)]
  rw [g_u_ne (show t2 ≠ t by omega)]
  rw [g_u_ne (show t2 ≠ t by omega)]
  refine g_put dX3_copyFrom_45 rfl fX3_27 hT.1 rfl rfl rfl ?_
  refine g_iconstI dX3_copyFrom_48 rfl rfl (fun w48 h48 => ?_)
  refine g_istore_n2 dX3_copyFrom_49 rfl rfl ?_
  refine l_copy1 hT hT2 hdj (M0 := M) (fun M1 hc1 i1 => ?_) _ w48 _ rfl (by omega) (by omega) ⟨fun j hj => ?_, rfl, fun k hk => ?_, fun a ha1 ha2 k hk => by omega⟩
  rotate_left
  · rw [g_u_ne (by omega), g_u_ne (by omega), g_u_ne (by omega), g_u_ne (by omega), g_u_ne (by omega), g_u_ne (by omega)]
  · rcases (show k = 0 ∨ k = 1 ∨ k = 2 ∨ k = 3 ∨ k = 4 ∨ k = 5 by omega) with rfl | rfl | rfl | rfl | rfl | rfl <;> simp [g_u]
  refine g_iconstI dX3_copyFrom_134 rfl rfl (fun w134 h134 => ?_)
  refine g_istore_n2 dX3_copyFrom_135 rfl rfl ?_
  refine l_copy2 hT hT2 hdj (M0 := M) (fun M2 hc2 i2 => ?_) _ w134 _ rfl (by omega) (by omega) ⟨fun j hj => hc1.1 j (by omega), hc1.2.1, hc1.2.2.1, hc1.2.2.2, fun a ha1 ha2 k hk => by omega⟩
  refine g_aload_n1 dX3_copyFrom_172 rfl ?_
  refine g_getr dX3_copyFrom_173 rfl fX3_55 hT2.1 rfl ?_
  refine g_iconstI dX3_copyFrom_176 rfl rfl (fun w176 h176 => ?_)
  refine g_aload_n0 dX3_copyFrom_177 rfl ?_
  refine g_getr dX3_copyFrom_178 rfl fX3_55 hT.1 rfl ?_
  refine g_iconstI dX3_copyFrom_181 rfl rfl (fun w181 h181 => ?_)
  refine g_bipushI dX3_copyFrom_182 rfl rfl (fun w182 h182 => ?_)
  refine g_acopy dX3_copyFrom_184 rfl jaX3_70 ja_s ja_i ja_n (tw_lowWeights hT) (tw_lowWeights hT2) (by omega) (by omega) (by omega) (by omega) (by omega) ⟨by show 1 ≤ _ + 1; omega, by show _ ≤ 40 + 50 * _; simp [Value.category] <;> omega⟩ ?_
  refine g_aload_n1 dX3_copyFrom_187 rfl ?_
  refine g_getr dX3_copyFrom_188 rfl fX3_58 hT2.1 rfl ?_
  refine g_iconstI dX3_copyFrom_191 rfl rfl (fun w191 h191 => ?_)
  refine g_aload_n0 dX3_copyFrom_192 rfl ?_
  refine g_getr dX3_copyFrom_193 rfl fX3_58 hT.1 rfl ?_
  refine g_iconstI dX3_copyFrom_196 rfl rfl (fun w196 h196 => ?_)
  refine g_bipushI dX3_copyFrom_197 rfl rfl (fun w197 h197 => ?_)
  refine g_acopy dX3_copyFrom_199 rfl jaX3_70 ja_s ja_i ja_n (tw_highWeights hT) (tw_highWeights hT2) (by omega) (by omega) (by omega) (by omega) (by omega) ⟨by show 1 ≤ _ + 1; omega, by show _ ≤ 40 + 50 * _; simp [Value.category] <;> omega⟩ ?_
  refine g_vret dX3_copyFrom_202 rfl ?_
  obtain ⟨c1, c2, c3, c4, c5⟩ := hc2
  have z1 : w176.toInt.toNat = 0 := by omega
  have z2 : w181.toInt.toNat = 0 := by omega
  have z3 : w182.toInt.toNat = 64 := by omega
  have z4 : w191.toInt.toNat = 0 := by omega
  have z5 : w196.toInt.toNat = 0 := by omega
  have z6 : w197.toInt.toNat = 64 := by omega
  rw [z1, z2, z3, z4, z5, z6]
  refine ⟨rfl, fun j hj => ?_, c2, fun a ha k hk => ?_⟩
  · rw [g_row_ne (by omega), g_row_ne (by omega)]
    exact c1 j (by omega)
  · rw [lenT] at hk
    by_cases h6 : a ≤ 6
    · rw [if_pos h6] at hk
      rw [g_row_ne (by omega), g_row_ne (by omega)]
      by_cases h0 : a = 0
      · subst h0; exact c3 k hk
      · exact c4 a (by omega) h6 k hk
    · rw [if_neg h6] at hk
      by_cases h8 : a ≤ 8
      · rw [if_pos h8] at hk
        rw [g_row_ne (by omega), g_row_ne (by omega)]
        exact c5 a (by omega) h8 k hk
      · rw [if_neg h8] at hk
        rcases (show a = 9 ∨ a = 10 by omega) with rfl | rfl
        · rw [g_row_ne (by omega), g_row_at, va_cpy, if_pos (by omega), c1 _ (by omega)]
          simp
        · rw [g_row_at, va_cpy, if_pos (by omega), g_row_ne (by omega), c1 _ (by omega)]
          simp
def addP (M : gM) (t n : Nat) (k g s : Int32) (n1 : Int32) : gM := g_u (g_u (g_u (g_u (g_u (g_u (g_u M (t + 1) n k) (t + 2) n g) (t + 3) n s) (t + 4) n 0) (t + 5) n (-1)) (t + 6) n 0) t 0 n1
def addT (M : gM) (t n : Nat) (w v : Int32) (h : Nat) (hs we n1 : Int32) : gM := g_u (g_u (g_u (g_u (g_u M (t + 7) n w) (t + 8) n v) (t + 6) h hs) t 5 we) t 1 n1
set_option maxHeartbeats 4000000 in
theorem c_addPerson {Γ : gW} {t : Nat} {M : gM} (hT : g_Town Γ t) (hp : 0 ≤ (M.1 t 0).toInt ∧ (M.1 t 0).toInt < 6) {k g s : Int32} : Ct Γ yX3_addPerson μX3_addPerson 0 [.ref t, .int k, .int g, .int s] M (g_qv (fun M1 => ∃ n1 : Int32, n1.toInt = (M.1 t 0).toInt + 1 ∧ M1 = addP M t (M.1 t 0).toInt.toNat k g s n1)) := by
  refine g_enter rfl rfl rfl (Nat.le_of_ble_eq_true rfl) ?_
  show G Γ _ _ _ _ 0 [some (.ref t), some (.int k), some (.int g), some (.int s)] [] M
  refine g_aload_n0 dX3_addPerson_0 rfl ?_
  refine g_geti dX3_addPerson_1 rfl fX3_9 hT.1 rfl ?_
  refine g_bipushI dX3_addPerson_4 rfl rfl (fun w4 h4 => ?_)
  refine g_icmp_geI (t := 79) dX3_addPerson_6 (by decide) rfl (fun c6 => absurd c6 (by omega)) (fun c6 => ?_)
  refine g_aload_n0 dX3_addPerson_9 rfl ?_
  refine g_getr dX3_addPerson_10 rfl fX3_30 hT.1 rfl ?_
  refine g_aload_n0 dX3_addPerson_13 rfl ?_
  refine g_geti dX3_addPerson_14 rfl fX3_9 hT.1 rfl ?_
  refine g_iload_n1 dX3_addPerson_17 rfl ?_
  refine g_iastI dX3_addPerson_18 rfl (tw_kind hT) ⟨by omega, by omega⟩ ?_
  refine g_aload_n0 dX3_addPerson_19 rfl ?_
  refine g_getr dX3_addPerson_20 rfl fX3_34 hT.1 rfl ?_
  refine g_aload_n0 dX3_addPerson_23 rfl ?_
  refine g_geti dX3_addPerson_24 rfl fX3_9 hT.1 rfl ?_
  rw [g_u_ne (show t ≠ t + 1 by omega)]
  refine g_iload_n2 dX3_addPerson_27 rfl ?_
  refine g_iastI dX3_addPerson_28 rfl (tw_goal hT) ⟨by omega, by omega⟩ ?_
  refine g_aload_n0 dX3_addPerson_29 rfl ?_
  refine g_getr dX3_addPerson_30 rfl fX3_37 hT.1 rfl ?_
  refine g_aload_n0 dX3_addPerson_33 rfl ?_
  refine g_geti dX3_addPerson_34 rfl fX3_9 hT.1 rfl ?_
  rw [g_u_ne (show t ≠ t + 2 by omega)]
  rw [g_u_ne (show t ≠ t + 1 by omega)]
  refine g_iload_n3 dX3_addPerson_37 rfl ?_
  refine g_iastI dX3_addPerson_38 rfl (tw_sand hT) ⟨by omega, by omega⟩ ?_
  refine g_aload_n0 dX3_addPerson_39 rfl ?_
  refine g_getr dX3_addPerson_40 rfl fX3_40 hT.1 rfl ?_
  refine g_aload_n0 dX3_addPerson_43 rfl ?_
  refine g_geti dX3_addPerson_44 rfl fX3_9 hT.1 rfl ?_
  rw [g_u_ne (show t ≠ t + 3 by omega)]
  rw [g_u_ne (show t ≠ t + 2 by omega)]
  rw [g_u_ne (show t ≠ t + 1 by omega)]
  refine g_iconst (v := 0) dX3_addPerson_47 rfl rfl ?_
  refine g_iastI dX3_addPerson_48 rfl (tw_owed hT) ⟨by omega, by omega⟩ ?_
  refine g_aload_n0 dX3_addPerson_49 rfl ?_
  refine g_getr dX3_addPerson_50 rfl fX3_43 hT.1 rfl ?_
  refine g_aload_n0 dX3_addPerson_53 rfl ?_
  refine g_geti dX3_addPerson_54 rfl fX3_9 hT.1 rfl ?_
  rw [g_u_ne (show t ≠ t + 4 by omega)]
  rw [g_u_ne (show t ≠ t + 3 by omega)]
  rw [g_u_ne (show t ≠ t + 2 by omega)]
  rw [g_u_ne (show t ≠ t + 1 by omega)]
  refine g_iconst (v := -1) dX3_addPerson_57 rfl rfl ?_
  refine g_iastI dX3_addPerson_58 rfl (tw_owedTo hT) ⟨by omega, by omega⟩ ?_
  refine g_aload_n0 dX3_addPerson_59 rfl ?_
  refine g_getr dX3_addPerson_60 rfl fX3_46 hT.1 rfl ?_
  refine g_aload_n0 dX3_addPerson_63 rfl ?_
  refine g_geti dX3_addPerson_64 rfl fX3_9 hT.1 rfl ?_
  rw [g_u_ne (show t ≠ t + 5 by omega)]
  rw [g_u_ne (show t ≠ t + 4 by omega)]
  rw [g_u_ne (show t ≠ t + 3 by omega)]
  rw [g_u_ne (show t ≠ t + 2 by omega)]
  rw [g_u_ne (show t ≠ t + 1 by omega)]
  refine g_iconst (v := 0) dX3_addPerson_67 rfl rfl ?_
  refine g_iastI dX3_addPerson_68 rfl (tw_has hT) ⟨by omega, by omega⟩ ?_
  refine g_aload_n0 dX3_addPerson_69 rfl ?_
  refine g_dup dX3_addPerson_70 rfl rfl ?_
  refine g_geti dX3_addPerson_71 rfl fX3_9 hT.1 rfl ?_
  rw [g_u_ne (show t ≠ t + 6 by omega)]
  rw [g_u_ne (show t ≠ t + 5 by omega)]
  rw [g_u_ne (show t ≠ t + 4 by omega)]
  rw [g_u_ne (show t ≠ t + 3 by omega)]
  rw [g_u_ne (show t ≠ t + 2 by omega)]
  rw [g_u_ne (show t ≠ t + 1 by omega)]
  refine g_iconstI dX3_addPerson_74 rfl rfl (fun w74 h74 => ?_)
  refine g_iaddI dX3_addPerson_75 rfl ⟨by omega, by omega⟩ (fun w75 h75 => ?_)
  refine g_put dX3_addPerson_76 rfl fX3_9 hT.1 rfl rfl rfl ?_
  refine g_vret dX3_addPerson_79 rfl ?_
  exact ⟨rfl, w75, by omega, rfl⟩
set_option maxHeartbeats 4000000 in
theorem c_addThing {Γ : gW} {t : Nat} {M : gM} (hT : g_Town Γ t) (hp : 0 ≤ (M.1 t 1).toInt ∧ (M.1 t 1).toInt < 12) {w v h b : Int32} (hh : 0 ≤ h.toInt ∧ h.toInt < 6) (hb : b.toInt = 0 ∨ b.toInt = 1) : Ct Γ yX3_addThing μX3_addThing 0 [.ref t, .int w, .int v, .int h, .int b] M (g_qv (fun M1 => ∃ hs we n1 : Int32, bn hs = bn (M.1 (t + 6) h.toInt.toNat) ||| 2 ^ (M.1 t 1).toInt.toNat ∧ bn we = bn (M.1 t 5) ||| (if b.toInt = 1 then 2 ^ (M.1 t 1).toInt.toNat else 0) ∧ n1.toInt = (M.1 t 1).toInt + 1 ∧ M1 = addT M t (M.1 t 1).toInt.toNat w v h.toInt.toNat hs we n1)) := by
  have hpw : 2 ^ (M.1 t 1).toInt.toNat < 4294967296 := Nat.lt_of_lt_of_le (Nat.pow_lt_pow_right (by decide) (by omega : (M.1 t 1).toInt.toNat < 12)) (by decide)
  refine g_enter rfl rfl rfl (Nat.le_of_ble_eq_true rfl) ?_
  show G Γ _ _ _ _ 0 [some (.ref t), some (.int w), some (.int v), some (.int h), some (.int b)] [] M
  refine g_aload_n0 dX3_addThing_0 rfl ?_
  refine g_geti dX3_addThing_1 rfl fX3_15 hT.1 rfl ?_
  refine g_bipushI dX3_addThing_4 rfl rfl (fun w4 h4 => ?_)
  refine g_icmp_geI (t := 78) dX3_addThing_6 (by decide) rfl (fun c6 => absurd c6 (by omega)) (fun c6 => ?_)
  refine g_aload_n0 dX3_addThing_9 rfl ?_
  refine g_getr dX3_addThing_10 rfl fX3_49 hT.1 rfl ?_
  refine g_aload_n0 dX3_addThing_13 rfl ?_
  refine g_geti dX3_addThing_14 rfl fX3_15 hT.1 rfl ?_
  refine g_iload_n1 dX3_addThing_17 rfl ?_
  refine g_iastI dX3_addThing_18 rfl (tw_weight hT) ⟨by omega, by omega⟩ ?_
  refine g_aload_n0 dX3_addThing_19 rfl ?_
  refine g_getr dX3_addThing_20 rfl fX3_52 hT.1 rfl ?_
  refine g_aload_n0 dX3_addThing_23 rfl ?_
  refine g_geti dX3_addThing_24 rfl fX3_15 hT.1 rfl ?_
  rw [g_u_ne (show t ≠ t + 7 by omega)]
  refine g_iload_n2 dX3_addThing_27 rfl ?_
  refine g_iastI dX3_addThing_28 rfl (tw_worth hT) ⟨by omega, by omega⟩ ?_
  refine g_aload_n0 dX3_addThing_29 rfl ?_
  refine g_getr dX3_addThing_30 rfl fX3_46 hT.1 rfl ?_
  refine g_iload_n3 dX3_addThing_33 rfl ?_
  refine g_dup2 dX3_addThing_34 rfl rfl rfl ?_
  refine g_ialdI dX3_addThing_35 rfl (tw_has hT) ⟨by omega, by omega⟩ ?_
  rw [g_u_ne (show t + 6 ≠ t + 8 by omega)]
  rw [g_u_ne (show t + 6 ≠ t + 7 by omega)]
  refine g_iconstI dX3_addThing_36 rfl rfl (fun w36 h36 => ?_)
  refine g_aload_n0 dX3_addThing_37 rfl ?_
  refine g_geti dX3_addThing_38 rfl fX3_15 hT.1 rfl ?_
  rw [g_u_ne (show t ≠ t + 8 by omega)]
  rw [g_u_ne (show t ≠ t + 7 by omega)]
  refine g_ishlB dX3_addThing_41 rfl ⟨by omega, by omega⟩ (fun w41 h41 => ?_)
  rw [bn_lit (n := 1) h36, Nat.shiftLeft_eq, Nat.one_mul, Nat.mod_eq_of_lt hpw] at h41
  refine g_iorB dX3_addThing_42 rfl  (fun w42 h42 => ?_)
  rw [h41] at h42
  refine g_iastI dX3_addThing_43 rfl (tw_has hT) ⟨by omega, by omega⟩ ?_
  refine g_aload_n0 dX3_addThing_44 rfl ?_
  refine g_dup dX3_addThing_45 rfl rfl ?_
  refine g_geti dX3_addThing_46 rfl fX3_27 hT.1 rfl ?_
  rw [g_u_ne (show t ≠ t + 6 by omega)]
  rw [g_u_ne (show t ≠ t + 8 by omega)]
  rw [g_u_ne (show t ≠ t + 7 by omega)]
  refine g_iload4 dX3_addThing_49 rfl ?_
  refine g_if_eqI (t := 63) dX3_addThing_51 (by decide) rfl (fun c51 => ?_) (fun c51 => ?_)
  · -- 51 t
    refine g_iconstI dX3_addThing_63 rfl rfl (fun w63 h63 => ?_)
    refine g_iorB dX3_addThing_64 rfl  (fun w64 h64 => ?_)
    refine g_put dX3_addThing_65 rfl fX3_27 hT.1 rfl rfl rfl ?_
    refine g_aload_n0 dX3_addThing_68 rfl ?_
    refine g_dup dX3_addThing_69 rfl rfl ?_
    refine g_geti dX3_addThing_70 rfl fX3_15 hT.1 rfl ?_
    rw [g_u_eq, if_neg (show ¬ (1 : Nat) = 5 by decide)]
    rw [g_u_ne (show t ≠ t + 6 by omega)]
    rw [g_u_ne (show t ≠ t + 8 by omega)]
    rw [g_u_ne (show t ≠ t + 7 by omega)]
    refine g_iconstI dX3_addThing_73 rfl rfl (fun w73 h73 => ?_)
    refine g_iaddI dX3_addThing_74 rfl ⟨by omega, by omega⟩ (fun w74 h74 => ?_)
    refine g_put dX3_addThing_75 rfl fX3_15 hT.1 rfl rfl rfl ?_
    refine g_vret dX3_addThing_78 rfl ?_
    refine ⟨rfl, w42, w64, w74, h42, ?_, by omega, rfl⟩
    first
      | (rw [if_pos (by omega), h64, h59])
      | (rw [if_neg (by omega), h64, bn_lit (n := 0) h63])
  · -- 51 f
    refine g_iconstI dX3_addThing_54 rfl rfl (fun w54 h54 => ?_)
    refine g_aload_n0 dX3_addThing_55 rfl ?_
    refine g_geti dX3_addThing_56 rfl fX3_15 hT.1 rfl ?_
    rw [g_u_ne (show t ≠ t + 6 by omega)]
    rw [g_u_ne (show t ≠ t + 8 by omega)]
    rw [g_u_ne (show t ≠ t + 7 by omega)]
    refine g_ishlB dX3_addThing_59 rfl ⟨by omega, by omega⟩ (fun w59 h59 => ?_)
    rw [bn_lit (n := 1) h54, Nat.shiftLeft_eq, Nat.one_mul, Nat.mod_eq_of_lt hpw] at h59
    refine g_goto (t := 64) dX3_addThing_60 (by decide) ?_
    refine g_iorB dX3_addThing_64 rfl  (fun w64 h64 => ?_)
    refine g_put dX3_addThing_65 rfl fX3_27 hT.1 rfl rfl rfl ?_
    refine g_aload_n0 dX3_addThing_68 rfl ?_
    refine g_dup dX3_addThing_69 rfl rfl ?_
    refine g_geti dX3_addThing_70 rfl fX3_15 hT.1 rfl ?_
    rw [g_u_eq, if_neg (show ¬ (1 : Nat) = 5 by decide)]
    rw [g_u_ne (show t ≠ t + 6 by omega)]
    rw [g_u_ne (show t ≠ t + 8 by omega)]
    rw [g_u_ne (show t ≠ t + 7 by omega)]
    refine g_iconstI dX3_addThing_73 rfl rfl (fun w73 h73 => ?_)
    refine g_iaddI dX3_addThing_74 rfl ⟨by omega, by omega⟩ (fun w74 h74 => ?_)
    refine g_put dX3_addThing_75 rfl fX3_15 hT.1 rfl rfl rfl ?_
    refine g_vret dX3_addThing_78 rfl ?_
    refine ⟨rfl, w42, w64, w74, h42, ?_, by omega, rfl⟩
    first
      | (rw [if_pos (by omega), h64, h59])
      | (rw [if_neg (by omega), h64, bn_lit (n := 0) h63])
