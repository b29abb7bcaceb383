theorem RSB.day {S : gSt} {M M1 : gM} {x : Int32} (h : RSB S M) (hO : TOK S.1) (hw : wrI S.1 M M1 (S.1 0 1).toNat) (hx : x.toInt = S.1 0 4 + 1) : RSB (dayT S.1, S.2) (g_u M1 300 12 x) := by
  obtain ⟨hS, h2, h3⟩ := h
  obtain ⟨a, b, c, d, e⟩ := RS.dry hS hO.2.1.1 hw
  refine ⟨⟨CR.day a, b, c, ?_, e⟩, ?_, ?_⟩
  · show _ = dayT S.1 0 4
    rw [g_u_eq, if_pos rfl, dayT, upT_eq]; exact hx
  · rw [g_u_eq, if_neg (by decide), hw.1 300 (by decide)]; exact h2
  · rw [g_u_ne (by decide), hw.1 425 (by decide)]; exact h3
theorem frD.day {T : gTw} {M0 M M1 : gM} {x : Int32} {n : Nat} (h : frD M0 M) (hw : wrI T M M1 n) : frD M0 (g_u M1 300 12 x) := by
  refine ⟨fun j a b c d => ?_, ?_, fun k a b => ?_⟩
  · rw [g_u_ne a, hw.1 j c]; exact h.1 j a b c d
  · show M1.2 = _; rw [hw.2.1]; exact h.2.1
  · rw [g_u_eq, if_neg a, hw.1 300 (by decide)]; exact h.2.2 k a b
set_option maxHeartbeats 1200000 in
theorem l_dayOut {Γ : gW} {M0 : gM} {S0 : gSt} (hR : g_Ref Γ) (hI : INV S0.1) (hg0 : S0.2.1 ≤ 200) (hdy : S0.1 0 4 + 60 ≤ 100000) {nn : Int32} (hnn : 0 ≤ nn.toInt ∧ nn.toInt ≤ 60) {Q : Option Value → gM → Prop} (hQ : ∀ (M : gM) (S : gSt) (z : Int32), frD M0 M → RSB S M → dyP S0 nn.toInt.toNat S → z.toInt = S.2.1 - (S0.2.1 : Int) → Q (some (.int z)) M) : ∀ (n9 : Nat) (mn kk : Int32) (z4 z5 : Option Value) (M : gM) (S : gSt) (k : Nat), 60 - k = n9 → kk.toInt = (k : Int) → (k : Int) ≤ nn.toInt → mn.toInt = S.2.1 - (S0.2.1 : Int) → frD M0 M → RSB S M → dyP S0 k S → G Γ μX6_days (g_R 5) (0, 0) (g_Z Γ Q) 25 [some (.ref 300), some (.int nn), some (.int mn), some (.int kk), z4, z5] [] M := by
  intro n9
  induction n9 using Nat.strongRecOn with
  | ind n9 ih =>
    intro mn kk z4 z5 M S k h9 hk0 hk1 hmn hfr hB hps
    obtain ⟨hIT, hg1, hg2, hT4⟩ := dyP_inv hI hg0 _ _ (by omega) hps
    refine g_iload_n3 dX6_days_25 rfl ?_
    refine g_iload_n1 dX6_days_26 rfl ?_
    refine g_icmp_geI (t := 158) dX6_days_27 (by decide) rfl (fun c27 => ?_) (fun c27 => ?_)
    · -- 27 t
      refine g_iload_n2 dX6_days_158 rfl ?_
      refine g_iret dX6_days_159 rfl ?_
      exact hQ M S _ hfr hB (by rw [show nn.toInt.toNat = k by omega]; exact hps) hmn
    · -- 27 f
      refine g_iconstI dX6_days_30 rfl rfl (fun w30 h30 => ?_)
      refine g_istore4 dX6_days_31 rfl rfl ?_
      refine l_dayIn (c := -(S0.2.1 : Int)) hR hIT hg1 (by omega) (fun M1 S1 mn1 i1 y5 hf1 hB1 hp1 hm1 => ?_) _ _ _ _ M S rfl (by omega) (by have := hIT.1.1; omega) (by omega) hfr hB (by rw [h30]; exact rfl)
      have hO1 := hB1.1
      obtain ⟨hI1, hq1, hq2, hq3⟩ := pdP_inv hIT hg1 _ _ (by have := hIT.1.1; omega) hp1
      have o_da := hIT.1.2.2.2.2.1
      have e4 : S1.1 0 4 = S.1 0 4 := hq3 0 4 (by decide) (by decide) (by decide) (by decide)
      have hD1 := hB1.1.2.2.2.1
      refine g_aload_n0 dX6_days_138 rfl ?_
      refine g_callVv0 dX6_days_139 rfl vX6_383 hR.1 rfl (r_dry hR hI1.1 hB1.1) (g_rm (by omega)) (Nat.le_of_ble_eq_true rfl) (fun M139 e139 => ?_)
      have hD2 : (M139.1 300 12).toInt = S1.1 0 4 := by rw [e139.1 300 (by decide)]; exact hD1
      refine g_aload_n0 dX6_days_142 rfl ?_
      refine g_dup dX6_days_143 rfl rfl ?_
      refine g_geti dX6_days_144 rfl fX6_253 hR.1 rfl ?_
      refine g_iconstI dX6_days_147 rfl rfl (fun w147 h147 => ?_)
      refine g_iaddI dX6_days_148 rfl ⟨by omega, by omega⟩ (fun w148 h148 => ?_)
      refine g_put dX6_days_149 rfl fX6_253 hR.1 rfl rfl rfl ?_
      refine g_iincI3 dX6_days_152 rfl rfl rfl ⟨by omega, by omega⟩ (fun w152 h152 => ?_)
      refine g_goto (t := 25) dX6_days_155 (by decide) ?_
      refine ih _ (by omega) _ _ _ _ _ (dayT S1.1, S1.2) (k + 1) rfl (by omega) (by omega) (by show _ = (S1.2.1 : Int) - _; omega) (frD.day hf1 e139) (RSB.day hB1 hI1.1 e139 (by omega)) ⟨S, S1, hps, hp1, rfl⟩
set_option maxHeartbeats 1200000 in
theorem r_days {Γ : gW} {M : gM} {S : gSt} (hR : g_Ref Γ) (hI : INV S.1) (hB : RSB S M) (hg0 : S.2.1 ≤ 200) (hdy : S.1 0 4 + 60 ≤ 100000) {nn : Int32} : Ct Γ yX6_days μX6_days 5 [.ref 300, .int nn] M (g_qi (fun z M1 => (¬ (0 ≤ nn.toInt ∧ nn.toInt ≤ 60) ∧ z.toInt = 0 ∧ M1 = g_u (g_u M 300 1 0) 300 1 1) ∨ ((0 ≤ nn.toInt ∧ nn.toInt ≤ 60) ∧ ∃ S1, frD (g_u M 300 1 0) M1 ∧ RSB S1 M1 ∧ dyP S nn.toInt.toNat S1 ∧ z.toInt = S1.2.1 - (S.2.1 : Int)))) := by
  refine g_enter rfl rfl rfl (Nat.le_of_ble_eq_true rfl) ?_
  show G Γ _ _ _ _ 0 [some (.ref 300), some (.int nn), none, none, none, none] [] M
  refine g_aload_n0 dX6_days_0 rfl ?_
  refine g_iconst (v := 0) dX6_days_1 rfl rfl ?_
  refine g_put dX6_days_2 rfl fX6_128 hR.1 rfl rfl rfl ?_
  refine g_iload_n1 dX6_days_5 rfl ?_
  refine g_iconstI dX6_days_6 rfl rfl (fun w6 h6 => ?_)
  refine g_bipushI dX6_days_7 rfl rfl (fun w7 h7 => ?_)
  refine g_callSi3 dX6_days_9 rfl sX6_131 (r_isIn) (g_rm (by omega)) (Nat.le_of_ble_eq_true rfl) (fun z9 M9 e9 => ?_)
  obtain ⟨e9a, e9, f9⟩ := e9
  subst e9a
  refine g_if_neI (t := 21) dX6_days_12 (by decide) rfl (fun c12 => ?_) (fun c12 => ?_)
  · -- 12 t
    have hv : 0 ≤ nn.toInt ∧ nn.toInt ≤ 60 := by have := f9.mp (by omega); omega
    clear f9 e9
    refine g_iconstI dX6_days_21 rfl rfl (fun w21 h21 => ?_)
    refine g_istore_n2 dX6_days_22 rfl rfl ?_
    refine g_iconstI dX6_days_23 rfl rfl (fun w23 h23 => ?_)
    refine g_istore_n3 dX6_days_24 rfl rfl ?_
    have hB0 : RSB S (g_u M 300 1 0) := ⟨RS.code hB.1, by rw [g_u_eq, if_neg (by decide)]; exact hB.2.1, hB.2.2⟩
    exact (l_dayOut hR hI hg0 hdy hv (fun M1 S1 z h1 h2 h3 h4 => ⟨_, rfl, Or.inr ⟨hv, S1, h1, h2, h3, h4⟩⟩) _ _ _ _ _ _ S 0 rfl (by omega) (by omega) (by omega) ⟨fun _ _ _ _ _ => rfl, rfl, fun _ _ _ => rfl⟩ hB0 rfl)
  · -- 12 f
    have hv : ¬ (0 ≤ nn.toInt ∧ nn.toInt ≤ 60) := fun h => by have := f9.mpr (by omega); omega
    clear f9 e9
    refine g_aload_n0 dX6_days_15 rfl ?_
    refine g_iconst (v := 1) dX6_days_16 rfl rfl ?_
    refine g_callVi1 dX6_days_17 rfl vX6_243 hR.1 rfl (r_fail hR) (g_rm (by omega)) (Nat.le_of_ble_eq_true rfl) (fun z17 M17 e17 => ?_)
    obtain ⟨e17a, e17⟩ := e17
    subst e17a
    refine g_iret dX6_days_20 rfl ?_
    exact ⟨_, rfl, Or.inl ⟨hv, e17, rfl⟩⟩
