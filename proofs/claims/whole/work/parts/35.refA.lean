set_option maxHeartbeats 4000000 in
theorem r_thrown {Γ : gW} {M : gM} (hR : g_Ref Γ)  : Ct Γ yX6_thrown μX6_thrown 0 [.ref 300] M (g_qi (fun z M1 => M1 = M ∧ z = M.1 300 1)) := by
  refine g_enter rfl rfl rfl (Nat.le_of_ble_eq_true rfl) ?_
  show G Γ _ _ _ _ 0 [some (.ref 300)] [] M
  refine g_aload_n0 dX6_thrown_0 rfl ?_
  refine g_geti dX6_thrown_1 rfl fX6_128 hR.1 rfl ?_
  refine g_iret dX6_thrown_4 rfl ?_
  exact ⟨_, rfl, rfl, rfl⟩
set_option maxHeartbeats 4000000 in
theorem r_fail {Γ : gW} {M : gM} (hR : g_Ref Γ) {k : Int32} : Ct Γ yX6_fail μX6_fail 0 [.ref 300, .int k] M (g_qi (fun z M1 => M1 = g_u M 300 1 k ∧ z.toInt = 0)) := by
  refine g_enter rfl rfl rfl (Nat.le_of_ble_eq_true rfl) ?_
  show G Γ _ _ _ _ 0 [some (.ref 300), some (.int k)] [] M
  refine g_aload_n0 dX6_fail_0 rfl ?_
  refine g_iload_n1 dX6_fail_1 rfl ?_
  refine g_put dX6_fail_2 rfl fX6_128 hR.1 rfl rfl rfl ?_
  refine g_iconstI dX6_fail_5 rfl rfl (fun w5 h5 => ?_)
  refine g_iret dX6_fail_6 rfl ?_
  exact ⟨_, rfl, rfl, by omega⟩
set_option maxHeartbeats 4000000 in
theorem r_isIn {Γ : gW} {M : gM} {v a b : Int32} : Ct Γ yX6_isIn μX6_isIn 0 [.int v, .int a, .int b] M (g_qi (fun z M1 => M1 = M ∧ (z.toInt = 0 ∨ z.toInt = 1) ∧ (z.toInt = 1 ↔ (a.toInt ≤ v.toInt ∧ v.toInt ≤ b.toInt)))) := by
  refine g_enter rfl rfl rfl (Nat.le_of_ble_eq_true rfl) ?_
  show G Γ _ _ _ _ 0 [some (.int v), some (.int a), some (.int b)] [] M
  refine g_iload_n0 dX6_isIn_0 rfl ?_
  refine g_iload_n1 dX6_isIn_1 rfl ?_
  refine g_icmp_ltI (t := 14) dX6_isIn_2 (by decide) rfl (fun c2 => ?_) (fun c2 => ?_)
  · -- 2 t
    refine g_iconstI dX6_isIn_14 rfl rfl (fun w14 h14 => ?_)
    refine g_zretI dX6_isIn_15 rfl (by omega) ?_
    exact ⟨_, rfl, rfl, by omega, by omega⟩
  · -- 2 f
    refine g_iload_n0 dX6_isIn_5 rfl ?_
    refine g_iload_n2 dX6_isIn_6 rfl ?_
    refine g_icmp_gtI (t := 14) dX6_isIn_7 (by decide) rfl (fun c7 => ?_) (fun c7 => ?_)
    · -- 7 t
      refine g_iconstI dX6_isIn_14 rfl rfl (fun w14 h14 => ?_)
      refine g_zretI dX6_isIn_15 rfl (by omega) ?_
      exact ⟨_, rfl, rfl, by omega, by omega⟩
    · -- 7 f
      refine g_iconstI dX6_isIn_10 rfl rfl (fun w10 h10 => ?_)
      refine g_goto (t := 15) dX6_isIn_11 (by decide) ?_
      refine g_zretI dX6_isIn_15 rfl (by omega) ?_
      exact ⟨_, rfl, rfl, by omega, by omega⟩
set_option maxHeartbeats 4000000 in
theorem r_isPerson {Γ : gW} {M : gM} {T : gTw} (hR : g_Ref Γ) (hO : TOK T) (hC : CR T M) {p : Int32} : Ct Γ yX6_isPerson μX6_isPerson 1 [.ref 300, .int p] M (g_qi (fun z M1 => M1 = M ∧ (z.toInt = 0 ∨ z.toInt = 1) ∧ (z.toInt = 1 ↔ (0 ≤ p.toInt ∧ p.toInt < T 0 0)))) := by
  obtain ⟨o_pe, o_th, o_la, o_wi, o_da, o_we, o_p, o_i⟩ := id hO
  obtain ⟨r_0, r_1, r_2, r_3, r_p, r_i⟩ := id hC
  refine g_enter rfl rfl rfl (Nat.le_of_ble_eq_true rfl) ?_
  show G Γ _ _ _ _ 0 [some (.ref 300), some (.int p)] [] M
  refine g_iload_n1 dX6_isPerson_0 rfl ?_
  refine g_iconstI dX6_isPerson_1 rfl rfl (fun w1 h1 => ?_)
  refine g_aload_n0 dX6_isPerson_2 rfl ?_
  refine g_getr dX6_isPerson_3 rfl fX6_25 hR.1 rfl ?_
  refine g_iconstI dX6_isPerson_6 rfl rfl (fun w6 h6 => ?_)
  refine g_ialdI dX6_isPerson_7 rfl (rf_told hR) ⟨by omega, by omega⟩ ?_
  have e6 : w6.toInt.toNat = 0 := by omega
  rw [e6]
  refine g_iconstI dX6_isPerson_8 rfl rfl (fun w8 h8 => ?_)
  refine g_isubI dX6_isPerson_9 rfl ⟨by omega, by omega⟩ (fun w9 h9 => ?_)
  refine g_callSi3 dX6_isPerson_10 rfl sX6_131 (r_isIn) (g_rm (by omega)) (Nat.le_of_ble_eq_true rfl) (fun z10 M10 e10 => ?_)
  obtain ⟨rfl, e10, f10⟩ := e10
  refine g_zretI dX6_isPerson_13 rfl (by omega) ?_
  exact ⟨_, rfl, rfl, e10, by omega⟩
set_option maxHeartbeats 4000000 in
theorem r_isThing {Γ : gW} {M : gM} {T : gTw} (hR : g_Ref Γ) (hO : TOK T) (hC : CR T M) {p : Int32} : Ct Γ yX6_isThing μX6_isThing 1 [.ref 300, .int p] M (g_qi (fun z M1 => M1 = M ∧ (z.toInt = 0 ∨ z.toInt = 1) ∧ (z.toInt = 1 ↔ (0 ≤ p.toInt ∧ p.toInt < T 0 1)))) := by
  obtain ⟨o_pe, o_th, o_la, o_wi, o_da, o_we, o_p, o_i⟩ := id hO
  obtain ⟨r_0, r_1, r_2, r_3, r_p, r_i⟩ := id hC
  refine g_enter rfl rfl rfl (Nat.le_of_ble_eq_true rfl) ?_
  show G Γ _ _ _ _ 0 [some (.ref 300), some (.int p)] [] M
  refine g_iload_n1 dX6_isThing_0 rfl ?_
  refine g_iconstI dX6_isThing_1 rfl rfl (fun w1 h1 => ?_)
  refine g_aload_n0 dX6_isThing_2 rfl ?_
  refine g_getr dX6_isThing_3 rfl fX6_25 hR.1 rfl ?_
  refine g_iconstI dX6_isThing_6 rfl rfl (fun w6 h6 => ?_)
  refine g_ialdI dX6_isThing_7 rfl (rf_told hR) ⟨by omega, by omega⟩ ?_
  have e6 : w6.toInt.toNat = 1 := by omega
  rw [e6]
  refine g_iconstI dX6_isThing_8 rfl rfl (fun w8 h8 => ?_)
  refine g_isubI dX6_isThing_9 rfl ⟨by omega, by omega⟩ (fun w9 h9 => ?_)
  refine g_callSi3 dX6_isThing_10 rfl sX6_131 (r_isIn) (g_rm (by omega)) (Nat.le_of_ble_eq_true rfl) (fun z10 M10 e10 => ?_)
  obtain ⟨rfl, e10, f10⟩ := e10
  refine g_zretI dX6_isThing_13 rfl (by omega) ?_
  exact ⟨_, rfl, rfl, e10, by omega⟩
set_option maxHeartbeats 4000000 in
theorem r_lightest {Γ : gW} {M : gM} {T : gTw} (hR : g_Ref Γ) (hO : TOK T) (hC : CR T M) {w : Int32} (hw : 0 ≤ w.toInt ∧ w.toInt ≤ 10000) : Ct Γ yX6_lightest μX6_lightest 0 [.ref 300, .int w] M (g_qi (fun z M1 => M1 = M ∧ z.toInt = if (1 : Int) < w.toInt - T 0 3 then w.toInt - T 0 3 else 1)) := by
  obtain ⟨o_pe, o_th, o_la, o_wi, o_da, o_we, o_p, o_i⟩ := id hO
  obtain ⟨r_0, r_1, r_2, r_3, r_p, r_i⟩ := id hC
  refine g_enter rfl rfl rfl (Nat.le_of_ble_eq_true rfl) ?_
  show G Γ _ _ _ _ 0 [some (.ref 300), some (.int w)] [] M
  refine g_iconstI dX6_lightest_0 rfl rfl (fun w0 h0 => ?_)
  refine g_iload_n1 dX6_lightest_1 rfl ?_
  refine g_aload_n0 dX6_lightest_2 rfl ?_
  refine g_getr dX6_lightest_3 rfl fX6_25 hR.1 rfl ?_
  refine g_iconstI dX6_lightest_6 rfl rfl (fun w6 h6 => ?_)
  refine g_ialdI dX6_lightest_7 rfl (rf_told hR) ⟨by omega, by omega⟩ ?_
  have e6 : w6.toInt.toNat = 3 := by omega
  rw [e6]
  refine g_isubI dX6_lightest_8 rfl ⟨by omega, by omega⟩ (fun w8 h8 => ?_)
  refine g_mmaxI dX6_lightest_9 rfl jX6_282 jm_max_s jm_i jm_max_c ⟨by show 1 ≤ _ + 1; omega, by show _ ≤ 40 + 50 * _; simp [Value.category] <;> omega⟩ (fun w9 h9 => ?_)
  refine g_iret dX6_lightest_12 rfl ?_
  refine ⟨_, rfl, rfl, ?_⟩
  rw [h9, h8, h0, r_3]
set_option maxHeartbeats 4000000 in
theorem l_rHas {Γ : gW} {M : gM} {T : gTw} (hR : g_Ref Γ) (hO : TOK T) (hC : CR T M) {a : Nat} (ha : g_o Γ a (.inr (1, 30))) {p : Int32} {Q : Option Value → gM → Prop} (hQ : ∀ z : Int32, bn z = gat (fun i => decide ((M.1 a i).toInt = p.toInt)) (T 0 1).toNat → Q (some (.int z)) M) : ∀ (n : Nat) (s i : Int32), (T 0 1).toNat - i.toInt.toNat = n → 0 ≤ i.toInt → i.toInt ≤ T 0 1 → bn s = gat (fun i => decide ((M.1 a i).toInt = p.toInt)) i.toInt.toNat → G Γ μX6_hasOf (g_R 0) (0, 0) (g_Z Γ Q) 5 [some (.ref 300), some (.ref a), some (.int p), some (.int s), some (.int i)] [] M := by
  intro n
  induction n using Nat.strongRecOn with
  | ind n ih =>
    intro s i hn hi0 hi1 hs
    obtain ⟨o_pe, o_th, o_la, o_wi, o_da, o_we, o_p, o_i⟩ := id hO
    obtain ⟨r_0, r_1, r_2, r_3, r_p, r_i⟩ := id hC
    refine g_iload4 dX6_hasOf_5 rfl ?_
    refine g_aload_n0 dX6_hasOf_7 rfl ?_
    refine g_getr dX6_hasOf_8 rfl fX6_25 hR.1 rfl ?_
    refine g_iconstI dX6_hasOf_11 rfl rfl (fun w11 h11 => ?_)
    refine g_ialdI dX6_hasOf_12 rfl (rf_told hR) ⟨by omega, by omega⟩ ?_
    have et12 : w11.toInt.toNat = 1 := by omega
    rw [et12]
    refine g_icmp_geI (t := 41) dX6_hasOf_13 (by decide) rfl (fun c13 => ?_) (fun c13 => ?_)
    · -- 13 t
      refine g_iload_n3 dX6_hasOf_41 rfl ?_
      refine g_iret dX6_hasOf_42 rfl ?_
      exact hQ _ (by rw [hs, show (T 0 1).toNat = i.toInt.toNat by omega])
    · -- 13 f
      refine g_iload_n3 dX6_hasOf_16 rfl ?_
      refine g_aload_n1 dX6_hasOf_17 rfl ?_
      refine g_iload4 dX6_hasOf_18 rfl ?_
      refine g_ialdI dX6_hasOf_20 rfl ha ⟨by omega, by omega⟩ ?_
      refine g_iload_n2 dX6_hasOf_21 rfl ?_
      refine g_icmp_neI (t := 32) dX6_hasOf_22 (by decide) rfl (fun c22 => ?_) (fun c22 => ?_)
      · -- 22 t
        refine g_iconstI dX6_hasOf_32 rfl rfl (fun w32 h32 => ?_)
        refine g_iorB dX6_hasOf_33 rfl  (fun w33 h33 => ?_)
        refine g_istore_n3 dX6_hasOf_34 rfl rfl ?_
        refine g_iincI4 dX6_hasOf_35 rfl rfl rfl ⟨by omega, by omega⟩ (fun w35 h35 => ?_)
        refine g_goto (t := 5) dX6_hasOf_38 (by decide) ?_
        refine ih _ (by omega) _ _ rfl (by omega) (by omega) ?_
        rw [h35, show (i.toInt + 1).toNat = i.toInt.toNat + 1 by omega, gat, ← hs, h33]
        first
          | rw [if_pos (by simp only [decide_eq_true_eq]; omega), h28]
          | rw [if_neg (by simp only [decide_eq_true_eq]; omega), bn_lit (n := 0) h32]
      · -- 22 f
        refine g_iconstI dX6_hasOf_25 rfl rfl (fun w25 h25 => ?_)
        refine g_iload4 dX6_hasOf_26 rfl ?_
        refine g_ishlB dX6_hasOf_28 rfl ⟨by omega, by omega⟩ (fun w28 h28 => ?_)
        have hpw : 2 ^ i.toInt.toNat < 4294967296 := Nat.lt_of_lt_of_le (Nat.pow_lt_pow_right (by decide) (by omega : i.toInt.toNat < 32)) (by decide)
        rw [bn_lit (n := 1) h25, Nat.shiftLeft_eq, Nat.one_mul, Nat.mod_eq_of_lt hpw] at h28
        refine g_goto (t := 33) dX6_hasOf_29 (by decide) ?_
        refine g_iorB dX6_hasOf_33 rfl  (fun w33 h33 => ?_)
        refine g_istore_n3 dX6_hasOf_34 rfl rfl ?_
        refine g_iincI4 dX6_hasOf_35 rfl rfl rfl ⟨by omega, by omega⟩ (fun w35 h35 => ?_)
        refine g_goto (t := 5) dX6_hasOf_38 (by decide) ?_
        refine ih _ (by omega) _ _ rfl (by omega) (by omega) ?_
        rw [h35, show (i.toInt + 1).toNat = i.toInt.toNat + 1 by omega, gat, ← hs, h33]
        first
          | rw [if_pos (by simp only [decide_eq_true_eq]; omega), h28]
          | rw [if_neg (by simp only [decide_eq_true_eq]; omega), bn_lit (n := 0) h32]
set_option maxHeartbeats 4000000 in
theorem r_hasOf {Γ : gW} {M : gM} {T : gTw} (hR : g_Ref Γ) (hO : TOK T) (hC : CR T M) {a : Nat} (ha : g_o Γ a (.inr (1, 30))) {p : Int32} : Ct Γ yX6_hasOf μX6_hasOf 0 [.ref 300, .ref a, .int p] M (g_qi (fun z M1 => M1 = M ∧ bn z = gat (fun i => decide ((M.1 a i).toInt = p.toInt)) (T 0 1).toNat)) := by
  obtain ⟨o_pe, o_th, o_la, o_wi, o_da, o_we, o_p, o_i⟩ := id hO
  obtain ⟨r_0, r_1, r_2, r_3, r_p, r_i⟩ := id hC
  refine g_enter rfl rfl rfl (Nat.le_of_ble_eq_true rfl) ?_
  show G Γ _ _ _ _ 0 [some (.ref 300), some (.ref a), some (.int p), none, none] [] M
  refine g_iconstI dX6_hasOf_0 rfl rfl (fun w0 h0 => ?_)
  refine g_istore_n3 dX6_hasOf_1 rfl rfl ?_
  refine g_iconstI dX6_hasOf_2 rfl rfl (fun w2 h2 => ?_)
  refine g_istore4 dX6_hasOf_3 rfl rfl ?_
  exact l_rHas hR hO hC ha (fun z hz => ⟨_, rfl, rfl, hz⟩) _ _ _ rfl (by omega) (by omega) (by rw [h2]; exact bn_lit (n := 0) h0)
set_option maxHeartbeats 4000000 in
theorem l_rWeight {Γ : gW} {M : gM} {T : gTw} (hR : g_Ref Γ) (hO : TOK T) (hC : CR T M) (hW : WR T M) {s : Int32} (hs : 0 ≤ s.toInt) {Q : Option Value → gM → Prop} (hQ : ∀ z : Int32, z.toInt = wsum (T 7) (T 0 1).toNat s.toInt.toNat → Q (some (.int z)) M) : ∀ (n : Nat) (v i : Int32), (T 0 1).toNat - i.toInt.toNat = n → 0 ≤ i.toInt → i.toInt ≤ T 0 1 → v.toInt = wsum (T 7) i.toInt.toNat s.toInt.toNat → G Γ μX6_weightOf (g_R 0) (0, 0) (g_Z Γ Q) 4 [some (.ref 300), some (.int s), some (.int v), some (.int i)] [] M := by
  intro n
  induction n using Nat.strongRecOn with
  | ind n ih =>
    intro v i hn hi0 hi1 hv
    obtain ⟨o_pe, o_th, o_la, o_wi, o_da, o_we, o_p, o_i⟩ := id hO
    obtain ⟨r_0, r_1, r_2, r_3, r_p, r_i⟩ := id hC
    have hr := wsum_le (w := T 7) (B := 99) (n := i.toInt.toNat) (s := s.toInt.toNat) (fun j hj => (o_i j (by omega)).1) (by omega)
    refine g_iload_n3 dX6_weightOf_4 rfl ?_
    refine g_aload_n0 dX6_weightOf_5 rfl ?_
    refine g_getr dX6_weightOf_6 rfl fX6_25 hR.1 rfl ?_
    refine g_iconstI dX6_weightOf_9 rfl rfl (fun w9 h9 => ?_)
    refine g_ialdI dX6_weightOf_10 rfl (rf_told hR) ⟨by omega, by omega⟩ ?_
    have et10 : w9.toInt.toNat = 1 := by omega
    rw [et10]
    refine g_icmp_geI (t := 42) dX6_weightOf_11 (by decide) rfl (fun c11 => ?_) (fun c11 => ?_)
    · -- 11 t
      refine g_iload_n2 dX6_weightOf_42 rfl ?_
      refine g_iret dX6_weightOf_43 rfl ?_
      exact hQ _ (by rw [hv, show (T 0 1).toNat = i.toInt.toNat by omega])
    · -- 11 f
      refine g_iload_n2 dX6_weightOf_14 rfl ?_
      refine g_iload_n1 dX6_weightOf_15 rfl ?_
      refine g_iload_n3 dX6_weightOf_16 rfl ?_
      refine g_ishrB dX6_weightOf_17 rfl ⟨by omega, by omega, by omega⟩ (fun w17 h17 => ?_)
      refine g_iconstI dX6_weightOf_18 rfl rfl (fun w18 h18 => ?_)
      refine g_iandB dX6_weightOf_19 rfl  (fun w19 h19 => ?_)
      have hbit := bit_and1 s.toInt.toNat i.toInt.toNat
      rw [h17, bn_lit (n := 1) h18, bn_toNat hs, hbit] at h19
      have h19c : w19.toInt = if s.toInt.toNat.testBit i.toInt.toNat then 1 else 0 := by
        rw [i_bn (by rw [h19]; split <;> omega), h19]; split <;> rfl
      refine g_iconstI dX6_weightOf_20 rfl rfl (fun w20 h20 => ?_)
      refine g_icmp_neI (t := 33) dX6_weightOf_21 (by decide) rfl (fun c21 => ?_) (fun c21 => ?_)
      · -- 21 t
        refine g_iconstI dX6_weightOf_33 rfl rfl (fun w33 h33 => ?_)
        refine g_iaddI dX6_weightOf_34 rfl ⟨by omega, by omega⟩ (fun w34 h34 => ?_)
        refine g_istore_n2 dX6_weightOf_35 rfl rfl ?_
        refine g_iincI3 dX6_weightOf_36 rfl rfl rfl ⟨by omega, by omega⟩ (fun w36 h36 => ?_)
        refine g_goto (t := 4) dX6_weightOf_39 (by decide) ?_
        refine ih _ (by omega) _ _ rfl (by omega) (by omega) ?_
        rw [h36, show (i.toInt + 1).toNat = i.toInt.toNat + 1 by omega, wsum, ← hv]
        split at h19c
        · rename_i hb; rw [if_pos hb]; omega
        · rename_i hb; rw [if_neg hb]; omega
      · -- 21 f
        refine g_aload_n0 dX6_weightOf_24 rfl ?_
        refine g_getr dX6_weightOf_25 rfl fX6_47 hR.1 rfl ?_
        refine g_iload_n3 dX6_weightOf_28 rfl ?_
        refine g_ialdI dX6_weightOf_29 rfl (rf_weight hR) ⟨by omega, by omega⟩ ?_
        have hwi := hW i.toInt.toNat (by omega)
        have hwb := (o_i i.toInt.toNat (by omega)).1
        refine g_goto (t := 34) dX6_weightOf_30 (by decide) ?_
        refine g_iaddI dX6_weightOf_34 rfl ⟨by omega, by omega⟩ (fun w34 h34 => ?_)
        refine g_istore_n2 dX6_weightOf_35 rfl rfl ?_
        refine g_iincI3 dX6_weightOf_36 rfl rfl rfl ⟨by omega, by omega⟩ (fun w36 h36 => ?_)
        refine g_goto (t := 4) dX6_weightOf_39 (by decide) ?_
        refine ih _ (by omega) _ _ rfl (by omega) (by omega) ?_
        rw [h36, show (i.toInt + 1).toNat = i.toInt.toNat + 1 by omega, wsum, ← hv]
        split at h19c
        · rename_i hb; rw [if_pos hb]; omega
        · rename_i hb; rw [if_neg hb]; omega
set_option maxHeartbeats 4000000 in
theorem r_weightOf {Γ : gW} {M : gM} {T : gTw} (hR : g_Ref Γ) (hO : TOK T) (hC : CR T M) (hW : WR T M) {s : Int32} (hs : 0 ≤ s.toInt) : Ct Γ yX6_weightOf μX6_weightOf 0 [.ref 300, .int s] M (g_qi (fun z M1 => M1 = M ∧ z.toInt = wsum (T 7) (T 0 1).toNat s.toInt.toNat)) := by
  obtain ⟨o_pe, o_th, o_la, o_wi, o_da, o_we, o_p, o_i⟩ := id hO
  obtain ⟨r_0, r_1, r_2, r_3, r_p, r_i⟩ := id hC
  refine g_enter rfl rfl rfl (Nat.le_of_ble_eq_true rfl) ?_
  show G Γ _ _ _ _ 0 [some (.ref 300), some (.int s), none, none] [] M
  refine g_iconstI dX6_weightOf_0 rfl rfl (fun w0 h0 => ?_)
  refine g_istore_n2 dX6_weightOf_1 rfl rfl ?_
  refine g_iconstI dX6_weightOf_2 rfl rfl (fun w2 h2 => ?_)
  refine g_istore_n3 dX6_weightOf_3 rfl rfl ?_
  exact l_rWeight hR hO hC hW hs (fun z hz => ⟨_, rfl, rfl, hz⟩) _ _ _ rfl (by omega) (by omega) (by rw [h0, h2]; rfl)
set_option maxHeartbeats 4000000 in
theorem l_rWorth {Γ : gW} {M : gM} {T : gTw} (hR : g_Ref Γ) (hO : TOK T) (hC : CR T M) {s : Int32} (hs : 0 ≤ s.toInt) {Q : Option Value → gM → Prop} (hQ : ∀ z : Int32, z.toInt = wsum (T 8) (T 0 1).toNat s.toInt.toNat → Q (some (.int z)) M) : ∀ (n : Nat) (v i : Int32), (T 0 1).toNat - i.toInt.toNat = n → 0 ≤ i.toInt → i.toInt ≤ T 0 1 → v.toInt = wsum (T 8) i.toInt.toNat s.toInt.toNat → G Γ μX6_worthOf (g_R 0) (0, 0) (g_Z Γ Q) 4 [some (.ref 300), some (.int s), some (.int v), some (.int i)] [] M := by
  intro n
  induction n using Nat.strongRecOn with
  | ind n ih =>
    intro v i hn hi0 hi1 hv
    obtain ⟨o_pe, o_th, o_la, o_wi, o_da, o_we, o_p, o_i⟩ := id hO
    obtain ⟨r_0, r_1, r_2, r_3, r_p, r_i⟩ := id hC
    have hr := wsum_le (w := T 8) (B := 999) (n := i.toInt.toNat) (s := s.toInt.toNat) (fun j hj => (o_i j (by omega)).2) (by omega)
    refine g_iload_n3 dX6_worthOf_4 rfl ?_
    refine g_aload_n0 dX6_worthOf_5 rfl ?_
    refine g_getr dX6_worthOf_6 rfl fX6_25 hR.1 rfl ?_
    refine g_iconstI dX6_worthOf_9 rfl rfl (fun w9 h9 => ?_)
    refine g_ialdI dX6_worthOf_10 rfl (rf_told hR) ⟨by omega, by omega⟩ ?_
    have et10 : w9.toInt.toNat = 1 := by omega
    rw [et10]
    refine g_icmp_geI (t := 42) dX6_worthOf_11 (by decide) rfl (fun c11 => ?_) (fun c11 => ?_)
    · -- 11 t
      refine g_iload_n2 dX6_worthOf_42 rfl ?_
      refine g_iret dX6_worthOf_43 rfl ?_
      exact hQ _ (by rw [hv, show (T 0 1).toNat = i.toInt.toNat by omega])
    · -- 11 f
      refine g_iload_n2 dX6_worthOf_14 rfl ?_
      refine g_iload_n1 dX6_worthOf_15 rfl ?_
      refine g_iload_n3 dX6_worthOf_16 rfl ?_
      refine g_ishrB dX6_worthOf_17 rfl ⟨by omega, by omega, by omega⟩ (fun w17 h17 => ?_)
      refine g_iconstI dX6_worthOf_18 rfl rfl (fun w18 h18 => ?_)
      refine g_iandB dX6_worthOf_19 rfl  (fun w19 h19 => ?_)
      have hbit := bit_and1 s.toInt.toNat i.toInt.toNat
      rw [h17, bn_lit (n := 1) h18, bn_toNat hs, hbit] at h19
      have h19c : w19.toInt = if s.toInt.toNat.testBit i.toInt.toNat then 1 else 0 := by
        rw [i_bn (by rw [h19]; split <;> omega), h19]; split <;> rfl
      refine g_iconstI dX6_worthOf_20 rfl rfl (fun w20 h20 => ?_)
      refine g_icmp_neI (t := 33) dX6_worthOf_21 (by decide) rfl (fun c21 => ?_) (fun c21 => ?_)
      · -- 21 t
        refine g_iconstI dX6_worthOf_33 rfl rfl (fun w33 h33 => ?_)
        refine g_iaddI dX6_worthOf_34 rfl ⟨by omega, by omega⟩ (fun w34 h34 => ?_)
        refine g_istore_n2 dX6_worthOf_35 rfl rfl ?_
        refine g_iincI3 dX6_worthOf_36 rfl rfl rfl ⟨by omega, by omega⟩ (fun w36 h36 => ?_)
        refine g_goto (t := 4) dX6_worthOf_39 (by decide) ?_
        refine ih _ (by omega) _ _ rfl (by omega) (by omega) ?_
        rw [h36, show (i.toInt + 1).toNat = i.toInt.toNat + 1 by omega, wsum, ← hv]
        split at h19c
        · rename_i hb; rw [if_pos hb]; omega
        · rename_i hb; rw [if_neg hb]; omega
      · -- 21 f
        refine g_aload_n0 dX6_worthOf_24 rfl ?_
        refine g_getr dX6_worthOf_25 rfl fX6_35 hR.1 rfl ?_
        refine g_iload_n3 dX6_worthOf_28 rfl ?_
        refine g_ialdI dX6_worthOf_29 rfl (rf_worth hR) ⟨by omega, by omega⟩ ?_
        have hwi := r_i i.toInt.toNat (by omega)
        have hwb := (o_i i.toInt.toNat (by omega)).2
        refine g_goto (t := 34) dX6_worthOf_30 (by decide) ?_
        refine g_iaddI dX6_worthOf_34 rfl ⟨by omega, by omega⟩ (fun w34 h34 => ?_)
        refine g_istore_n2 dX6_worthOf_35 rfl rfl ?_
        refine g_iincI3 dX6_worthOf_36 rfl rfl rfl ⟨by omega, by omega⟩ (fun w36 h36 => ?_)
        refine g_goto (t := 4) dX6_worthOf_39 (by decide) ?_
        refine ih _ (by omega) _ _ rfl (by omega) (by omega) ?_
        rw [h36, show (i.toInt + 1).toNat = i.toInt.toNat + 1 by omega, wsum, ← hv]
        split at h19c
        · rename_i hb; rw [if_pos hb]; omega
        · rename_i hb; rw [if_neg hb]; omega
set_option maxHeartbeats 4000000 in
theorem r_worthOf {Γ : gW} {M : gM} {T : gTw} (hR : g_Ref Γ) (hO : TOK T) (hC : CR T M) {s : Int32} (hs : 0 ≤ s.toInt) : Ct Γ yX6_worthOf μX6_worthOf 0 [.ref 300, .int s] M (g_qi (fun z M1 => M1 = M ∧ z.toInt = wsum (T 8) (T 0 1).toNat s.toInt.toNat)) := by
  obtain ⟨o_pe, o_th, o_la, o_wi, o_da, o_we, o_p, o_i⟩ := id hO
  obtain ⟨r_0, r_1, r_2, r_3, r_p, r_i⟩ := id hC
  refine g_enter rfl rfl rfl (Nat.le_of_ble_eq_true rfl) ?_
  show G Γ _ _ _ _ 0 [some (.ref 300), some (.int s), none, none] [] M
  refine g_iconstI dX6_worthOf_0 rfl rfl (fun w0 h0 => ?_)
  refine g_istore_n2 dX6_worthOf_1 rfl rfl ?_
  refine g_iconstI dX6_worthOf_2 rfl rfl (fun w2 h2 => ?_)
  refine g_istore_n3 dX6_worthOf_3 rfl rfl ?_
  exact l_rWorth hR hO hC hs (fun z hz => ⟨_, rfl, rfl, hz⟩) _ _ _ rfl (by omega) (by omega) (by rw [h0, h2]; rfl)
