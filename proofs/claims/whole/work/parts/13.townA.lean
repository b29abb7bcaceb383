set_option maxHeartbeats 4000000 in
theorem c_lightest {Γ : gW} {t : Nat} {M : gM} (hT : g_Town Γ t) (hB : TB M t) {p : Int32} (hp : 0 ≤ p.toInt ∧ p.toInt < 6) : Ct Γ yX3_lightest μX3_lightest 0 [.ref t, .int p] M (g_qi (fun z M1 => M1 = M ∧ z.toInt = lgt M t p.toInt.toNat)) := by
  have hb0 := hB.1
  obtain ⟨h_pe, h_th, h_la, h_wi, h_da, h_we⟩ := id hb0
  have hb1 := hB.2.1 p.toInt.toNat (by omega)
  obtain ⟨h_k, h_g, h_s, h_o, h_ot, h_h⟩ := id hb1
  refine g_enter rfl rfl rfl (Nat.le_of_ble_eq_true rfl) ?_
  show G Γ _ _ _ _ 0 [some (.ref t), some (.int p)] [] M
  refine g_iconstI dX3_lightest_0 rfl rfl (fun w0 h0 => ?_)
  refine g_aload_n0 dX3_lightest_1 rfl ?_
  refine g_getr dX3_lightest_2 rfl fX3_40 hT.1 rfl ?_
  refine g_iload_n1 dX3_lightest_5 rfl ?_
  refine g_ialdI dX3_lightest_6 rfl (tw_owed hT) ⟨by omega, by omega⟩ ?_
  refine g_aload_n0 dX3_lightest_7 rfl ?_
  refine g_geti dX3_lightest_8 rfl fX3_21 hT.1 rfl ?_
  refine g_isubI dX3_lightest_11 rfl ⟨by omega, by omega⟩ (fun w11 h11 => ?_)
  refine g_mmaxI dX3_lightest_12 rfl jX3_90 jm_max_s jm_i jm_max_c ⟨by show 1 ≤ _ + 1; omega, by show _ ≤ 40 + 50 * _; simp [Value.category] <;> omega⟩ (fun w12 h12 => ?_)
  refine g_iret dX3_lightest_15 rfl ?_
  refine ⟨_, rfl, rfl, ?_⟩
  rw [lgt, h12, h11, h0]
set_option maxHeartbeats 4000000 in
theorem c_heaviest {Γ : gW} {t : Nat} {M : gM} (hT : g_Town Γ t) (hB : TB M t) {p : Int32} (hp : 0 ≤ p.toInt ∧ p.toInt < 6) : Ct Γ yX3_heaviest μX3_heaviest 0 [.ref t, .int p] M (g_qi (fun z M1 => M1 = M ∧ z.toInt = hvy M t p.toInt.toNat)) := by
  have hb0 := hB.1
  obtain ⟨h_pe, h_th, h_la, h_wi, h_da, h_we⟩ := id hb0
  have hb1 := hB.2.1 p.toInt.toNat (by omega)
  obtain ⟨h_k, h_g, h_s, h_o, h_ot, h_h⟩ := id hb1
  refine g_enter rfl rfl rfl (Nat.le_of_ble_eq_true rfl) ?_
  show G Γ _ _ _ _ 0 [some (.ref t), some (.int p)] [] M
  refine g_aload_n0 dX3_heaviest_0 rfl ?_
  refine g_getr dX3_heaviest_1 rfl fX3_40 hT.1 rfl ?_
  refine g_iload_n1 dX3_heaviest_4 rfl ?_
  refine g_ialdI dX3_heaviest_5 rfl (tw_owed hT) ⟨by omega, by omega⟩ ?_
  refine g_aload_n0 dX3_heaviest_6 rfl ?_
  refine g_geti dX3_heaviest_7 rfl fX3_21 hT.1 rfl ?_
  refine g_iaddI dX3_heaviest_10 rfl ⟨by omega, by omega⟩ (fun w10 h10 => ?_)
  refine g_iret dX3_heaviest_11 rfl ?_
  refine ⟨_, rfl, rfl, ?_⟩
  rw [hvy]; omega
set_option maxHeartbeats 4000000 in
theorem c_mayAnswer {Γ : gW} {t : Nat} {M : gM} (hT : g_Town Γ t) (hB : TB M t) {p : Int32} (hp : 0 ≤ p.toInt ∧ p.toInt < 6) : Ct Γ yX3_mayAnswer μX3_mayAnswer 0 [.ref t, .int p] M (g_qi (fun z M1 => M1 = M ∧ (z.toInt = 0 ∨ z.toInt = 1) ∧ (z.toInt = 1 ↔ may M t p.toInt.toNat))) := by
  have hb0 := hB.1
  obtain ⟨h_pe, h_th, h_la, h_wi, h_da, h_we⟩ := id hb0
  have hb1 := hB.2.1 p.toInt.toNat (by omega)
  obtain ⟨h_k, h_g, h_s, h_o, h_ot, h_h⟩ := id hb1
  refine g_enter rfl rfl rfl (Nat.le_of_ble_eq_true rfl) ?_
  show G Γ _ _ _ _ 0 [some (.ref t), some (.int p)] [] M
  refine g_aload_n0 dX3_mayAnswer_0 rfl ?_
  refine g_getr dX3_mayAnswer_1 rfl fX3_40 hT.1 rfl ?_
  refine g_iload_n1 dX3_mayAnswer_4 rfl ?_
  refine g_ialdI dX3_mayAnswer_5 rfl (tw_owed hT) ⟨by omega, by omega⟩ ?_
  refine g_if_leI (t := 21) dX3_mayAnswer_6 (by decide) rfl (fun c6 => ?_) (fun c6 => ?_)
  · -- 6 t
    refine g_iconstI dX3_mayAnswer_21 rfl rfl (fun w21 h21 => ?_)
    refine g_zretI dX3_mayAnswer_22 rfl (by omega) ?_
    refine ⟨_, rfl, rfl, by omega, ?_⟩
    rw [may]; omega
  · -- 6 f
    refine g_aload_n0 dX3_mayAnswer_9 rfl ?_
    refine g_geti dX3_mayAnswer_10 rfl fX3_9 hT.1 rfl ?_
    refine g_iconstI dX3_mayAnswer_13 rfl rfl (fun w13 h13 => ?_)
    refine g_icmp_leI (t := 21) dX3_mayAnswer_14 (by decide) rfl (fun c14 => ?_) (fun c14 => ?_)
    · -- 14 t
      refine g_iconstI dX3_mayAnswer_21 rfl rfl (fun w21 h21 => ?_)
      refine g_zretI dX3_mayAnswer_22 rfl (by omega) ?_
      refine ⟨_, rfl, rfl, by omega, ?_⟩
      rw [may]; omega
    · -- 14 f
      refine g_iconstI dX3_mayAnswer_17 rfl rfl (fun w17 h17 => ?_)
      refine g_goto (t := 22) dX3_mayAnswer_18 (by decide) ?_
      refine g_zretI dX3_mayAnswer_22 rfl (by omega) ?_
      refine ⟨_, rfl, rfl, by omega, ?_⟩
      rw [may]; omega
set_option maxHeartbeats 4000000 in
theorem c_waits {Γ : gW} {t : Nat} {M : gM} (hT : g_Town Γ t) (hB : TB M t) {p : Int32} (hp : 0 ≤ p.toInt ∧ p.toInt < 6) : Ct Γ yX3_waits μX3_waits 0 [.ref t, .int p] M (g_qi (fun z M1 => M1 = M ∧ (z.toInt = 0 ∨ z.toInt = 1) ∧ (z.toInt = 1 ↔ waitsP M t p.toInt.toNat))) := by
  have hb0 := hB.1
  obtain ⟨h_pe, h_th, h_la, h_wi, h_da, h_we⟩ := id hb0
  have hb1 := hB.2.1 p.toInt.toNat (by omega)
  obtain ⟨h_k, h_g, h_s, h_o, h_ot, h_h⟩ := id hb1
  refine g_enter rfl rfl rfl (Nat.le_of_ble_eq_true rfl) ?_
  show G Γ _ _ _ _ 0 [some (.ref t), some (.int p)] [] M
  refine g_aload_n0 dX3_waits_0 rfl ?_
  refine g_getr dX3_waits_1 rfl fX3_30 hT.1 rfl ?_
  refine g_iload_n1 dX3_waits_4 rfl ?_
  refine g_ialdI dX3_waits_5 rfl (tw_kind hT) ⟨by omega, by omega⟩ ?_
  refine g_iconstI dX3_waits_6 rfl rfl (fun w6 h6 => ?_)
  refine g_icmp_neI (t := 27) dX3_waits_7 (by decide) rfl (fun c7 => ?_) (fun c7 => ?_)
  · -- 7 t
    refine g_iconstI dX3_waits_27 rfl rfl (fun w27 h27 => ?_)
    refine g_zretI dX3_waits_28 rfl (by omega) ?_
    refine ⟨_, rfl, rfl, by omega, ?_⟩
    rw [waitsP]; omega
  · -- 7 f
    refine g_aload_n0 dX3_waits_10 rfl ?_
    refine g_geti dX3_waits_11 rfl fX3_24 hT.1 rfl ?_
    refine g_aload_n0 dX3_waits_14 rfl ?_
    refine g_getr dX3_waits_15 rfl fX3_34 hT.1 rfl ?_
    refine g_iload_n1 dX3_waits_18 rfl ?_
    refine g_ialdI dX3_waits_19 rfl (tw_goal hT) ⟨by omega, by omega⟩ ?_
    refine g_icmp_geI (t := 27) dX3_waits_20 (by decide) rfl (fun c20 => ?_) (fun c20 => ?_)
    · -- 20 t
      refine g_iconstI dX3_waits_27 rfl rfl (fun w27 h27 => ?_)
      refine g_zretI dX3_waits_28 rfl (by omega) ?_
      refine ⟨_, rfl, rfl, by omega, ?_⟩
      rw [waitsP]; omega
    · -- 20 f
      refine g_iconstI dX3_waits_23 rfl rfl (fun w23 h23 => ?_)
      refine g_goto (t := 28) dX3_waits_24 (by decide) ?_
      refine g_zretI dX3_waits_28 rfl (by omega) ?_
      refine ⟨_, rfl, rfl, by omega, ?_⟩
      rw [waitsP]; omega
set_option maxHeartbeats 4000000 in
theorem c_weightOf {Γ : gW} {t : Nat} {M : gM} (hT : g_Town Γ t) (hB : TB M t) {s : Int32} (hs : 0 ≤ s.toInt ∧ s.toInt < 4096) : Ct Γ yX3_weightOf μX3_weightOf 0 [.ref t, .int s] M (g_qi (fun z M1 => M1 = M ∧ z.toInt = wt M t s.toInt.toNat)) := by
  have h64 : ∀ x : Nat, x &&& 63 < 64 := fun x => Nat.lt_of_le_of_lt Nat.and_le_right (by decide)
  refine g_enter rfl rfl rfl (Nat.le_of_ble_eq_true rfl) ?_
  show G Γ _ _ _ _ 0 [some (.ref t), some (.int s)] [] M
  refine g_aload_n0 dX3_weightOf_0 rfl ?_
  refine g_getr dX3_weightOf_1 rfl fX3_55 hT.1 rfl ?_
  refine g_iload_n1 dX3_weightOf_4 rfl ?_
  refine g_bipushI dX3_weightOf_5 rfl rfl (fun w5 h5 => ?_)
  refine g_iandB dX3_weightOf_7 rfl  (fun w7 h7 => ?_)
  have g7 : w7.toInt = ((s.toInt.toNat &&& 63 : Nat) : Int) := by
    have e5 := bn_lit (n := 63) h5
    have e1 := bn_toNat hs.1
    rw [e1, e5] at h7
    have := h64 s.toInt.toNat
    rw [i_bn (by omega), h7]
  have l7 := h64 s.toInt.toNat
  refine g_ialdI dX3_weightOf_8 rfl (tw_lowWeights hT) ⟨by omega, by omega⟩ ?_
  refine g_aload_n0 dX3_weightOf_9 rfl ?_
  refine g_getr dX3_weightOf_10 rfl fX3_58 hT.1 rfl ?_
  refine g_iload_n1 dX3_weightOf_13 rfl ?_
  refine g_bipushI dX3_weightOf_14 rfl rfl (fun w14 h14 => ?_)
  refine g_iushrB dX3_weightOf_16 rfl ⟨by omega, by omega⟩ (fun w16 h16 => ?_)
  refine g_bipushI dX3_weightOf_17 rfl rfl (fun w17 h17 => ?_)
  refine g_iandB dX3_weightOf_19 rfl  (fun w19 h19 => ?_)
  have g19 : w19.toInt = ((s.toInt.toNat >>> 6 &&& 63 : Nat) : Int) := by
    have e5 := bn_lit (n := 63) h17
    have e1 := bn_toNat hs.1
    rw [h16, e1, e5, h14] at h19
    have := h64 (s.toInt.toNat >>> 6)
    rw [i_bn (by rw [h19]; exact Nat.lt_trans this (by decide)), h19]
    rfl
  have l19 := h64 (s.toInt.toNat >>> 6)
  refine g_ialdI dX3_weightOf_20 rfl (tw_highWeights hT) ⟨by omega, by omega⟩ ?_
  have k1 := (hB.2.2.2 _ l7).1
  have k2 := (hB.2.2.2 _ l19).2
  have n7 : w7.toInt.toNat = s.toInt.toNat &&& 63 := by omega
  have n19 : w19.toInt.toNat = s.toInt.toNat >>> 6 &&& 63 := by omega
  rw [n7, n19]
  rw [wsum_and (wtF M t) 6 s.toInt.toNat 6 (by omega)] at k1
  rw [wsum_and (fun i => wtF M t (6 + i)) 6 (s.toInt.toNat >>> 6) 6 (by omega)] at k2
  have hw := wt_rng (s := s.toInt.toNat) hB
  have hsp : wsum (wtF M t) 12 s.toInt.toNat = _ := wsum_split (wtF M t) 6 6 s.toInt.toNat
  rw [wt] at hw
  refine g_iaddI dX3_weightOf_21 rfl ⟨by omega, by omega⟩ (fun w21 h21 => ?_)
  refine g_iret dX3_weightOf_22 rfl ?_
  refine ⟨_, rfl, rfl, ?_⟩
  rw [h21, k1, k2, wt, hsp]
