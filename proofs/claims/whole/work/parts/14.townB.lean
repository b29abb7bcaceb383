theorem bit_and1 (x i : Nat) : x >>> i &&& 1 = if x.testBit i then 1 else 0 := by
  rw [Nat.and_one_is_mod, Nat.testBit_eq_decide_div_mod_eq, Nat.shiftRight_eq_div_pow]
  by_cases h : x / 2 ^ i % 2 = 1
  · simp [h]
  · simp [h]; omega
set_option maxHeartbeats 4000000 in
theorem c_holds {Γ : gW} {t : Nat} {M : gM} (hT : g_Town Γ t) (hB : TB M t) {p : Int32} (hp : 0 ≤ p.toInt ∧ p.toInt < 6) {i : Int32} (hi : 0 ≤ i.toInt ∧ i.toInt < 32) : Ct Γ yX3_holds μX3_holds 0 [.ref t, .int p, .int i] M (g_qi (fun z M1 => M1 = M ∧ z.toInt = if (has M t p.toInt.toNat).testBit i.toInt.toNat then 1 else 0)) := by
  have hb0 := hB.1
  obtain ⟨h_pe, h_th, h_la, h_wi, h_da, h_we⟩ := id hb0
  have hb1 := hB.2.1 p.toInt.toNat (by omega)
  obtain ⟨h_k, h_g, h_s, h_o, h_ot, h_h⟩ := id hb1
  refine g_enter rfl rfl rfl (Nat.le_of_ble_eq_true rfl) ?_
  show G Γ _ _ _ _ 0 [some (.ref t), some (.int p), some (.int i)] [] M
  refine g_aload_n0 dX3_holds_0 rfl ?_
  refine g_getr dX3_holds_1 rfl fX3_46 hT.1 rfl ?_
  refine g_iload_n1 dX3_holds_4 rfl ?_
  refine g_ialdI dX3_holds_5 rfl (tw_has hT) ⟨by omega, by omega⟩ ?_
  refine g_iload_n2 dX3_holds_6 rfl ?_
  refine g_iushrB dX3_holds_7 rfl ⟨by omega, by omega⟩ (fun w7 h7 => ?_)
  refine g_iconstI dX3_holds_8 rfl rfl (fun w8 h8 => ?_)
  refine g_iandB dX3_holds_9 rfl  (fun w9 h9 => ?_)
  have e1 := bn_lit (n := 1) h8
  have hbit := bit_and1 (has M t p.toInt.toNat) i.toInt.toNat
  rw [h7, e1] at h9
  have h9b : bn w9 = if (has M t p.toInt.toNat).testBit i.toInt.toNat then 1 else 0 := h9.trans hbit
  have h9c : w9.toInt = if (has M t p.toInt.toNat).testBit i.toInt.toNat then 1 else 0 := by
    rw [i_bn (by rw [h9b]; split <;> omega), h9b]; split <;> rfl
  refine g_iconstI dX3_holds_10 rfl rfl (fun w10 h10 => ?_)
  refine g_icmp_neI (t := 18) dX3_holds_11 (by decide) rfl (fun c11 => ?_) (fun c11 => ?_)
  · -- 11 t
    refine g_iconstI dX3_holds_18 rfl rfl (fun w18 h18 => ?_)
    refine g_zretI dX3_holds_19 rfl (by omega) ?_
    refine ⟨_, rfl, rfl, ?_⟩
    split at h9c <;> simp_all <;> omega
  · -- 11 f
    refine g_iconstI dX3_holds_14 rfl rfl (fun w14 h14 => ?_)
    refine g_goto (t := 19) dX3_holds_15 (by decide) ?_
    refine g_zretI dX3_holds_19 rfl (by omega) ?_
    refine ⟨_, rfl, rfl, ?_⟩
    split at h9c <;> simp_all <;> omega
set_option maxHeartbeats 4000000 in
theorem c_sandFor {Γ : gW} {t : Nat} {M : gM} (hT : g_Town Γ t) (hB : TB M t) {p : Int32} (hp : 0 ≤ p.toInt ∧ p.toInt < 6) {s : Int32} (hs : 0 ≤ s.toInt ∧ s.toInt < 4096) : Ct Γ yX3_sandFor μX3_sandFor 1 [.ref t, .int p, .int s] M (g_qi (fun z M1 => M1 = M ∧ z.toInt = sandOf M t p.toInt.toNat s.toInt.toNat)) := by
  have hb0 := hB.1
  obtain ⟨h_pe, h_th, h_la, h_wi, h_da, h_we⟩ := id hb0
  have hb1 := hB.2.1 p.toInt.toNat (by omega)
  obtain ⟨h_k, h_g, h_s, h_o, h_ot, h_h⟩ := id hb1
  refine g_enter rfl rfl rfl (Nat.le_of_ble_eq_true rfl) ?_
  show G Γ _ _ _ _ 0 [some (.ref t), some (.int p), some (.int s)] [] M
  refine g_iconstI dX3_sandFor_0 rfl rfl (fun w0 h0 => ?_)
  refine g_aload_n0 dX3_sandFor_1 rfl ?_
  refine g_iload_n1 dX3_sandFor_2 rfl ?_
  refine g_callVi1 dX3_sandFor_3 rfl vX3_84 hT.1 rfl (c_lightest hT hB hp) (g_rm (by omega)) (Nat.le_of_ble_eq_true rfl) (fun z3 M3 e3 => ?_)
  obtain ⟨rfl, e3⟩ := e3
  refine g_aload_n0 dX3_sandFor_6 rfl ?_
  refine g_iload_n2 dX3_sandFor_7 rfl ?_
  refine g_callVi1 dX3_sandFor_8 rfl vX3_80 hT.1 rfl (c_weightOf hT hB hs) (g_rm (by omega)) (Nat.le_of_ble_eq_true rfl) (fun z8 M8 e8 => ?_)
  obtain ⟨rfl, e8⟩ := e8
  have hw := wt_rng (s := s.toInt.toNat) hB
  have hl : 1 ≤ lgt M8 t p.toInt.toNat ∧ lgt M8 t p.toInt.toNat ≤ 2000 := by rw [lgt]; split <;> omega
  refine g_isubI dX3_sandFor_11 rfl ⟨by omega, by omega⟩ (fun w11 h11 => ?_)
  refine g_mmaxI dX3_sandFor_12 rfl jX3_90 jm_max_s jm_i jm_max_c ⟨by show 1 ≤ _ + 1; omega, by show _ ≤ 40 + 50 * _; simp [Value.category] <;> omega⟩ (fun w12 h12 => ?_)
  refine g_iret dX3_sandFor_15 rfl ?_
  refine ⟨_, rfl, rfl, ?_⟩
  rw [sandOf, h12, h11, h0, e3, e8]
set_option maxHeartbeats 4000000 in
theorem c_stepUp {Γ : gW} {M : gM} {a s : Int32} : Ct Γ yX3_stepUp μX3_stepUp 0 [.int a, .int s] M (g_qi (fun z M1 => M1 = M ∧ bn z = stp (bn a) (bn s))) := by
  refine g_enter rfl rfl rfl (Nat.le_of_ble_eq_true rfl) ?_
  show G Γ _ _ _ _ 0 [some (.int a), some (.int s)] [] M
  refine g_iload_n1 dX3_stepUp_0 rfl ?_
  refine g_iload_n0 dX3_stepUp_1 rfl ?_
  refine g_iconstI dX3_stepUp_2 rfl rfl (fun w2 h2 => ?_)
  refine g_ixorB dX3_stepUp_3 rfl  (fun w3 h3 => ?_)
  refine g_iorB dX3_stepUp_4 rfl  (fun w4 h4 => ?_)
  refine g_iconstI dX3_stepUp_5 rfl rfl (fun w5 h5 => ?_)
  refine g_iadd dX3_stepUp_6 rfl ?_
  have e6 := bn_add w4 w5
  refine g_iload_n0 dX3_stepUp_7 rfl ?_
  refine g_iandB dX3_stepUp_8 rfl  (fun w8 h8 => ?_)
  refine g_iret dX3_stepUp_9 rfl ?_
  refine ⟨_, rfl, rfl, ?_⟩
  rw [h8, e6, h4, h3, bn_neg1 h2, bn_lit (n := 1) h5]; rfl
set_option maxHeartbeats 4000000 in
theorem l_worthOf {Γ : gW} {t : Nat} {M : gM} (hT : g_Town Γ t) (hB : TB M t) {s : Int32} (hs : 0 ≤ s.toInt ∧ s.toInt < 4096) {Q : Option Value → gM → Prop} (hQ : ∀ z : Int32, z.toInt = wsum (woF M t) (M.1 t 1).toInt.toNat s.toInt.toNat → Q (some (.int z)) M) : ∀ (n : Nat) (a i : Int32), (M.1 t 1).toInt.toNat - i.toInt.toNat = n → 0 ≤ i.toInt → i.toInt ≤ (M.1 t 1).toInt → a.toInt = wsum (woF M t) i.toInt.toNat s.toInt.toNat → G Γ μX3_worthOf (g_R 0) (0, 0) (g_Z Γ Q) 4 [some (.ref t), some (.int s), some (.int a), some (.int i)] [] M := by
  intro n
  induction n using Nat.strongRecOn with
  | ind n ih =>
    intro a i hn hi0 hi1 ha
    have hb0 := hB.1
    obtain ⟨h_pe, h_th, h_la, h_wi, h_da, h_we⟩ := id hb0
    have hr := wsum_le (w := woF M t) (B := 999) (n := i.toInt.toNat) (s := s.toInt.toNat) (fun j hj => (hB.2.2.1 j (by omega)).2) (by omega)
    refine g_iload_n3 dX3_worthOf_4 rfl ?_
    refine g_aload_n0 dX3_worthOf_5 rfl ?_
    refine g_geti dX3_worthOf_6 rfl fX3_15 hT.1 rfl ?_
    refine g_icmp_geI (t := 33) dX3_worthOf_9 (by decide) rfl (fun c9 => ?_) (fun c9 => ?_)
    · -- 9 t
      refine g_iload_n2 dX3_worthOf_33 rfl ?_
      refine g_iret dX3_worthOf_34 rfl ?_
      exact hQ _ (by rw [ha, show (M.1 t 1).toInt.toNat = i.toInt.toNat by omega])
    · -- 9 f
      refine g_iload_n2 dX3_worthOf_12 rfl ?_
      refine g_iload_n1 dX3_worthOf_13 rfl ?_
      refine g_iload_n3 dX3_worthOf_14 rfl ?_
      refine g_iushrB dX3_worthOf_15 rfl ⟨by omega, by omega⟩ (fun w15 h15 => ?_)
      refine g_iconstI dX3_worthOf_16 rfl rfl (fun w16 h16 => ?_)
      refine g_iandB dX3_worthOf_17 rfl  (fun w17 h17 => ?_)
      have e1 := bn_lit (n := 1) h16
      have hbit := bit_and1 s.toInt.toNat i.toInt.toNat
      rw [h15, e1, bn_toNat hs.1, hbit] at h17
      have h17c : w17.toInt = if s.toInt.toNat.testBit i.toInt.toNat then 1 else 0 := by
        rw [i_bn (by rw [h17]; split <;> omega), h17]; split <;> rfl
      refine g_aload_n0 dX3_worthOf_18 rfl ?_
      refine g_getr dX3_worthOf_19 rfl fX3_52 hT.1 rfl ?_
      refine g_iload_n3 dX3_worthOf_22 rfl ?_
      refine g_ialdI dX3_worthOf_23 rfl (tw_worth hT) ⟨by omega, by omega⟩ ?_
      have hwo := (hB.2.2.1 i.toInt.toNat (by omega)).2
      have hm : w17.toInt * (M.1 (t + 8) i.toInt.toNat).toInt = if s.toInt.toNat.testBit i.toInt.toNat then (M.1 (t + 8) i.toInt.toNat).toInt else 0 := by
        rw [h17c]; split <;> simp
      refine g_imulI dX3_worthOf_24 rfl ⟨by rw [hm]; split <;> omega, by rw [hm]; split <;> omega⟩ (fun w24 h24 => ?_)
      rw [hm] at h24
      have h24b : 0 ≤ w24.toInt ∧ w24.toInt ≤ 999 := by rw [h24]; split <;> omega
      refine g_iaddI dX3_worthOf_25 rfl ⟨by omega, by omega⟩ (fun w25 h25 => ?_)
      refine g_istore_n2 dX3_worthOf_26 rfl rfl ?_
      refine g_iincI3 dX3_worthOf_27 rfl rfl rfl ⟨by omega, by omega⟩ (fun w27 h27 => ?_)
      refine g_goto (t := 4) dX3_worthOf_30 (by decide) ?_
      refine ih _ ?_ _ _ rfl (by omega) (by omega) ?_
      · omega
      · rw [h27, show (i.toInt + 1).toNat = i.toInt.toNat + 1 by omega, wsum, ← ha, h25, h24]; rfl
set_option maxHeartbeats 4000000 in
theorem c_worthOf {Γ : gW} {t : Nat} {M : gM} (hT : g_Town Γ t) (hB : TB M t) {s : Int32} (hs : 0 ≤ s.toInt ∧ s.toInt < 4096) : Ct Γ yX3_worthOf μX3_worthOf 0 [.ref t, .int s] M (g_qi (fun z M1 => M1 = M ∧ z.toInt = wsum (woF M t) (M.1 t 1).toInt.toNat s.toInt.toNat)) := by
  have hb0 := hB.1
  obtain ⟨h_pe, h_th, h_la, h_wi, h_da, h_we⟩ := id hb0
  refine g_enter rfl rfl rfl (Nat.le_of_ble_eq_true rfl) ?_
  show G Γ _ _ _ _ 0 [some (.ref t), some (.int s), none, none] [] M
  refine g_iconstI dX3_worthOf_0 rfl rfl (fun w0 h0 => ?_)
  refine g_istore_n2 dX3_worthOf_1 rfl rfl ?_
  refine g_iconstI dX3_worthOf_2 rfl rfl (fun w2 h2 => ?_)
  refine g_istore_n3 dX3_worthOf_3 rfl rfl ?_
  exact l_worthOf hT hB hs (fun z hz => ⟨_, rfl, rfl, hz⟩) _ _ _ rfl (by omega) (by omega) (by rw [h0, h2]; rfl)
theorem fstP_step (P : Nat → Bool) (n k : Nat) (h : k < n) : fstP P (n - k) k = if P k then (k : Int) else fstP P (n - (k + 1)) (k + 1) := by
  rw [show n - k = (n - (k + 1)) + 1 by omega, fstP]
set_option maxHeartbeats 4000000 in
theorem l_holderOf {Γ : gW} {t : Nat} {M : gM} (hT : g_Town Γ t) (hB : TB M t) {i : Int32} (hi : 0 ≤ i.toInt ∧ i.toInt < 32) {Q : Option Value → gM → Prop} (hQ : ∀ z : Int32, z.toInt = hold M t i.toInt.toNat → Q (some (.int z)) M) : ∀ (n : Nat) (p : Int32), (M.1 t 0).toInt.toNat - p.toInt.toNat = n → 0 ≤ p.toInt → p.toInt ≤ (M.1 t 0).toInt → hold M t i.toInt.toNat = fstP (fun p => (has M t p).testBit i.toInt.toNat) ((M.1 t 0).toInt.toNat - p.toInt.toNat) p.toInt.toNat → G Γ μX3_holderOf (g_R 1) (0, 0) (g_Z Γ Q) 2 [some (.ref t), some (.int i), some (.int p)] [] M := by
  intro n
  induction n using Nat.strongRecOn with
  | ind n ih =>
    intro p hn hp0 hp1 hf
    have hb0 := hB.1
    obtain ⟨h_pe, h_th, h_la, h_wi, h_da, h_we⟩ := id hb0
    refine g_iload_n2 dX3_holderOf_2 rfl ?_
    refine g_aload_n0 dX3_holderOf_3 rfl ?_
    refine g_geti dX3_holderOf_4 rfl fX3_9 hT.1 rfl ?_
    refine g_icmp_geI (t := 27) dX3_holderOf_7 (by decide) rfl (fun c7 => ?_) (fun c7 => ?_)
    · -- 7 t
      refine g_iconstI dX3_holderOf_27 rfl rfl (fun w27 h27 => ?_)
      refine g_iret dX3_holderOf_28 rfl ?_
      refine hQ _ ?_
      rw [hf, h27, show (M.1 t 0).toInt.toNat - p.toInt.toNat = 0 by omega]; rfl
    · -- 7 f
      refine g_aload_n0 dX3_holderOf_10 rfl ?_
      refine g_iload_n2 dX3_holderOf_11 rfl ?_
      refine g_iload_n1 dX3_holderOf_12 rfl ?_
      refine g_callVi2 dX3_holderOf_13 rfl vX3_76 hT.1 rfl (c_holds hT hB ⟨by omega, by omega⟩ hi) (g_rm (by omega)) (Nat.le_of_ble_eq_true rfl) (fun z13 M13 e13 => ?_)
      obtain ⟨rfl, e13⟩ := e13
      rw [fstP_step _ _ _ (by omega)] at hf
      refine g_if_eqI (t := 21) dX3_holderOf_16 (by decide) rfl (fun c16 => ?_) (fun c16 => ?_)
      · -- 16 t
        refine g_iincI2 dX3_holderOf_21 rfl rfl rfl ⟨by omega, by omega⟩ (fun w21 h21 => ?_)
        refine g_goto (t := 2) dX3_holderOf_24 (by decide) ?_
        refine ih _ ?_ _ rfl (by omega) (by omega) ?_
        · omega
        · rw [hf, h21, show (p.toInt + 1).toNat = p.toInt.toNat + 1 by omega]
          split at e13
          · omega
          · rename_i hx; rw [if_neg hx]
      · -- 16 f
        refine g_iload_n2 dX3_holderOf_19 rfl ?_
        refine g_iret dX3_holderOf_20 rfl ?_
        refine hQ _ ?_
        rw [hf]
        split at e13
        · rename_i hx; rw [if_pos hx]; omega
        · omega
set_option maxHeartbeats 4000000 in
theorem c_holderOf {Γ : gW} {t : Nat} {M : gM} (hT : g_Town Γ t) (hB : TB M t) {i : Int32} (hi : 0 ≤ i.toInt ∧ i.toInt < 32) : Ct Γ yX3_holderOf μX3_holderOf 1 [.ref t, .int i] M (g_qi (fun z M1 => M1 = M ∧ z.toInt = hold M t i.toInt.toNat)) := by
  have hb0 := hB.1
  obtain ⟨h_pe, h_th, h_la, h_wi, h_da, h_we⟩ := id hb0
  refine g_enter rfl rfl rfl (Nat.le_of_ble_eq_true rfl) ?_
  show G Γ _ _ _ _ 0 [some (.ref t), some (.int i), none] [] M
  refine g_iconstI dX3_holderOf_0 rfl rfl (fun w0 h0 => ?_)
  refine g_istore_n2 dX3_holderOf_1 rfl rfl ?_
  exact l_holderOf hT hB hi (fun z hz => ⟨_, rfl, rfl, hz⟩) _ _ rfl (by omega) (by omega) (by rw [h0]; rfl)
