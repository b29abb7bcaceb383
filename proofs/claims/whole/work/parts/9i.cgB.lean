theorem jcX1_116 : Cond.constantLong RX1 116 (-7046029254386353131) ∈ g_UW := g_uwR (ws := [Cond.constantLong RX1 116 (-7046029254386353131)]) [974] (by decide +kernel) (by decide +kernel) _ List.mem_cons_self
theorem g_ul_at2 {M : gM} {i k j : Nat} {x : Int64} : (g_ul M i k x).2 i j = if j = k then x else M.2 i j := by simp [g_ul]
theorem g_ul_ne2 {M : gM} {i k a : Nat} {x : Int64} (h : a ≠ i) : (g_ul M i k x).2 a = M.2 a := by funext b; simp [g_ul, h]
def PKr (T : gTw) (q : Nat) : Nat := if (q : Int) < T 0 0 then PK T q else 0
set_option maxHeartbeats 1200000 in
theorem l_pk2 {Γ : gW} (hA : g_Get Γ) {T : gTw} (hO : TOK T) {M0 : gM} {v2 v3 : Option Value} {Q : Option Value → gM → Prop} (hQ : ∀ M : gM, M.1 = M0.1 → (∀ j, j ≠ 253 → M.2 j = M0.2 j) → (∀ q, q < 6 → ln (M.2 253 q) = PKr T q) → Q none M) : ∀ (n9 : Nat) (p : Int32) (M : gM), 6 - p.toInt.toNat = n9 → T 0 0 ≤ p.toInt → p.toInt ≤ 6 → M.1 = M0.1 → (∀ j, j ≠ 253 → M.2 j = M0.2 j) → (∀ q, q < p.toInt.toNat → ln (M.2 253 q) = PKr T q) → G Γ μX1_pack (g_R 0) (0, 0) (g_Z Γ Q) 89 [some (.ref 250), some (.int p), v2, v3] [] M := by
  intro n9
  induction n9 using Nat.strongRecOn with
  | ind n9 ih =>
    intro p M h9 hp0 hp1 g1 g2 g3
    have hb0 := hO.1
    refine g_iload_n1 dX1_pack_89 rfl ?_
    refine g_bipushI dX1_pack_90 rfl rfl (fun w90 h90 => ?_)
    refine g_icmp_geI (t := 108) dX1_pack_92 (by decide) rfl (fun c92 => ?_) (fun c92 => ?_)
    · -- 92 t
      refine g_vret dX1_pack_108 rfl ?_
      exact hQ M g1 g2 (fun q hq => g3 q (by omega))
    · -- 92 f
      refine g_aload_n0 dX1_pack_95 rfl ?_
      refine g_getr dX1_pack_96 rfl fX1_19 hA.1 rfl ?_
      refine g_iload_n1 dX1_pack_99 rfl ?_
      refine g_lconst (v := 0) dX1_pack_100 rfl rfl ?_
      refine g_last dX1_pack_101 rfl hA.2.2.2.1 (i_in ⟨by omega, by omega⟩) ?_
      refine g_iincI1 dX1_pack_102 rfl rfl rfl ⟨by omega, by omega⟩ (fun w102 h102 => ?_)
      refine g_goto (t := 89) dX1_pack_105 (by decide) ?_
      refine ih _ (show 6 - w102.toInt.toNat < n9 by omega) w102 _ rfl (by omega) (by omega) g1 (fun j hj => by rw [g_ul_ne2 hj]; exact g2 j hj) (fun q hq => ?_)
      rw [g_ul_at2, show p.toNatClampNeg = p.toInt.toNat from rfl]
      by_cases hqp : q = p.toInt.toNat
      · rw [if_pos hqp, PKr, if_neg (by omega)]; rfl
      · rw [if_neg hqp]; exact g3 q (by omega)
set_option maxHeartbeats 1200000 in
theorem l_pk1 {Γ : gW} (hA : g_Get Γ) {T : gTw} (hO : TOK T) {M0 : gM} (hT : tv M0 200 = T) {Q : Option Value → gM → Prop} (hQ : ∀ M : gM, M.1 = M0.1 → (∀ j, j ≠ 253 → M.2 j = M0.2 j) → (∀ q, q < 6 → ln (M.2 253 q) = PKr T q) → Q none M) : ∀ (n9 : Nat) (p : Int32) (v2 v3 : Option Value) (M : gM), 6 - p.toInt.toNat = n9 → 0 ≤ p.toInt → p.toInt ≤ T 0 0 → M.1 = M0.1 → (∀ j, j ≠ 253 → M.2 j = M0.2 j) → (∀ q, q < p.toInt.toNat → ln (M.2 253 q) = PKr T q) → G Γ μX1_pack (g_R 0) (0, 0) (g_Z Γ Q) 2 [some (.ref 250), some (.int p), v2, v3] [] M := by
  intro n9
  induction n9 using Nat.strongRecOn with
  | ind n9 ih =>
    intro p v2 v3 M h9 hp0 hp1 g1 g2 g3
    have hb0 := hO.1
    have t00 : (M.1 200 0).toInt = T 0 0 := by rw [g1, ← hT]; exact (tv0 (by decide)).symm
    have tf : ∀ f, f ≤ 6 → p.toInt.toNat < 6 → (M.1 (200 + f) p.toInt.toNat).toInt = T f p.toInt.toNat := fun f hf hp => by rw [g1, ← hT]; exact (tvp hf hp).symm
    refine g_iload_n1 dX1_pack_2 rfl ?_
    refine g_aload_n0 dX1_pack_3 rfl ?_
    refine g_getr dX1_pack_4 rfl fX1_25 hA.1 rfl ?_
    refine g_geti dX1_pack_7 rfl fX1_62 hA.2.2.2.2.1 rfl ?_
    refine g_icmp_geI (t := 81) dX1_pack_10 (by decide) rfl (fun c10 => ?_) (fun c10 => ?_)
    · -- 10 t
      clear tf
      refine g_aload_n0 dX1_pack_81 rfl ?_
      refine g_getr dX1_pack_82 rfl fX1_25 hA.1 rfl ?_
      refine g_geti dX1_pack_85 rfl fX1_62 hA.2.2.2.2.1 rfl ?_
      refine g_istore_n1 dX1_pack_88 rfl rfl ?_
      exact l_pk2 hA hO hQ _ _ _ rfl (by omega) (by omega) g1 g2 (fun q hq => g3 q (by omega))
    · -- 10 f
      have t5 := tf 5 (by decide) (by omega)
      have t4 := tf 4 (by decide) (by omega)
      have t3 := tf 3 (by decide) (by omega)
      have t6 := tf 6 (by decide) (by omega)
      have hbp := hO.2.2.2.2.2.2.1 p.toInt.toNat (by omega)
      have hr := PK_rng hO (p := p.toInt.toNat) (by omega)
      clear tf
      refine g_aload_n0 dX1_pack_13 rfl ?_
      refine g_getr dX1_pack_14 rfl fX1_25 hA.1 rfl ?_
      refine g_getr dX1_pack_17 rfl fX1_83 hA.2.2.2.2.1 rfl ?_
      refine g_iload_n1 dX1_pack_20 rfl ?_
      refine g_ialdI dX1_pack_21 rfl (tw_owedTo hA.2.2.2.2) ⟨by omega, by omega⟩ ?_
      refine g_iconstI dX1_pack_22 rfl rfl (fun w22 h22 => ?_)
      refine g_iaddI dX1_pack_23 rfl ⟨by omega, by omega⟩ (fun w23 h23 => ?_)
      refine g_i2l dX1_pack_24 rfl ?_
      refine g_bipush (v := 12) dX1_pack_25 rfl rfl ?_
      refine g_lshl dX1_pack_27 rfl ?_
      refine g_aload_n0 dX1_pack_28 rfl ?_
      refine g_getr dX1_pack_29 rfl fX1_25 hA.1 rfl ?_
      refine g_getr dX1_pack_32 rfl fX1_107 hA.2.2.2.2.1 rfl ?_
      refine g_iload_n1 dX1_pack_35 rfl ?_
      refine g_ialdI dX1_pack_36 rfl (tw_owed hA.2.2.2.2) ⟨by omega, by omega⟩ ?_
      refine g_i2l dX1_pack_37 rfl ?_
      refine g_lor dX1_pack_38 rfl ?_
      refine g_lstore_n2 dX1_pack_39 rfl rfl ?_
      refine g_aload_n0 dX1_pack_40 rfl ?_
      refine g_getr dX1_pack_41 rfl fX1_19 hA.1 rfl ?_
      refine g_iload_n1 dX1_pack_44 rfl ?_
      refine g_lload_n2 dX1_pack_45 rfl ?_
      refine g_bipush (v := 24) dX1_pack_46 rfl rfl ?_
      refine g_lshl dX1_pack_48 rfl ?_
      refine g_aload_n0 dX1_pack_49 rfl ?_
      refine g_getr dX1_pack_50 rfl fX1_25 hA.1 rfl ?_
      refine g_getr dX1_pack_53 rfl fX1_110 hA.2.2.2.2.1 rfl ?_
      refine g_iload_n1 dX1_pack_56 rfl ?_
      refine g_ialdI dX1_pack_57 rfl (tw_sand hA.2.2.2.2) ⟨by omega, by omega⟩ ?_
      refine g_i2l dX1_pack_58 rfl ?_
      refine g_bipush (v := 12) dX1_pack_59 rfl rfl ?_
      refine g_lshl dX1_pack_61 rfl ?_
      refine g_lor dX1_pack_62 rfl ?_
      refine g_aload_n0 dX1_pack_63 rfl ?_
      refine g_getr dX1_pack_64 rfl fX1_25 hA.1 rfl ?_
      refine g_getr dX1_pack_67 rfl fX1_113 hA.2.2.2.2.1 rfl ?_
      refine g_iload_n1 dX1_pack_70 rfl ?_
      refine g_ialdI dX1_pack_71 rfl (tw_has hA.2.2.2.2) ⟨by omega, by omega⟩ ?_
      refine g_i2l dX1_pack_72 rfl ?_
      refine g_lor dX1_pack_73 rfl ?_
      refine g_last dX1_pack_74 rfl hA.2.2.2.1 (i_in ⟨by omega, by omega⟩) ?_
      have hval : ln ((((w23.toInt64 <<< ((12 : Int32).toInt64 &&& 63)) ||| (M.1 (200 + 4) p.toInt.toNat).toInt64) <<< ((24 : Int32).toInt64 &&& 63)) ||| ((M.1 (200 + 3) p.toInt.toNat).toInt64 <<< ((12 : Int32).toInt64 &&& 63)) ||| (M.1 (200 + 6) p.toInt.toNat).toInt64) = PK T p.toInt.toNat := by
        rw [ll_or, ll_or, ln_shl (by decide), ll_or, ln_shl (by decide), ln_shl (by decide), ln_i2l (by omega), ln_i2l (by omega), ln_i2l (by omega), ln_i2l (by omega), t3, t4, t6, h23, t5, show w22.toInt = 1 from h22]
        exact pk_or hr.1 hr.2.1 hr.2.2.1 hr.2.2.2
      refine g_iincI1 dX1_pack_75 rfl rfl rfl ⟨by omega, by omega⟩ (fun w75 h75 => ?_)
      refine g_goto (t := 2) dX1_pack_78 (by decide) ?_
      refine ih _ (show 6 - w75.toInt.toNat < n9 by omega) w75 _ _ _ rfl (by omega) (by omega) g1 (fun j hj => by rw [g_ul_ne2 hj]; exact g2 j hj) (fun q hq => ?_)
      rw [g_ul_at2, show p.toNatClampNeg = p.toInt.toNat from rfl]
      by_cases hqp : q = p.toInt.toNat
      · rw [if_pos hqp, hval, hqp, PKr, if_pos (by omega)]
      · rw [if_neg hqp]; exact g3 q (by omega)
set_option maxHeartbeats 1200000 in
theorem c_pack {Γ : gW} (hA : g_Get Γ) {T : gTw} (hO : TOK T) {M : gM} (hT : tv M 200 = T) : Ct Γ yX1_pack μX1_pack 0 [.ref 250] M (g_qv (fun M1 => M1.1 = M.1 ∧ (∀ j, j ≠ 253 → M1.2 j = M.2 j) ∧ ∀ q, q < 6 → ln (M1.2 253 q) = PKr T q)) := by
  have hb0 := hO.1
  refine g_enter rfl rfl rfl (Nat.le_of_ble_eq_true rfl) ?_
  show G Γ _ _ _ _ 0 [some (.ref 250), none, none, none] [] M
  refine g_iconstI dX1_pack_0 rfl rfl (fun w0 h0 => ?_)
  refine g_istore_n1 dX1_pack_1 rfl rfl ?_
  exact l_pk1 hA hO hT (fun M1 a b c => ⟨rfl, a, b, c⟩) _ _ _ _ _ rfl (by omega) (by omega) rfl (fun _ _ => rfl) (fun q hq => by omega)
set_option maxHeartbeats 1200000 in
theorem l_ip {Γ : gW} (hA : g_Get Γ) {M : gM} {k : Nat} {kI : Int32} (hk : kI.toInt = (k : Int)) (hk2 : k < 1000) {Q : Option Value → gM → Prop} (hQ : ∀ z : Int32, (z.toInt = 0 ∨ z.toInt = 1) → (z.toInt = 1 ↔ ∀ q, q < 6 → M.2 251 (6 * k + q) = M.2 253 q) → Q (some (.int z)) M) : ∀ (n9 : Nat) (p : Int32), 6 - p.toInt.toNat = n9 → 0 ≤ p.toInt → p.toInt ≤ 6 → (∀ q, q < p.toInt.toNat → M.2 251 (6 * k + q) = M.2 253 q) → G Γ μX1_isPacked (g_R 0) (0, 0) (g_Z Γ Q) 2 [some (.ref 250), some (.int kI), some (.int p)] [] M := by
  intro n9
  induction n9 using Nat.strongRecOn with
  | ind n9 ih =>
    intro p h9 hp0 hp1 hall
    refine g_iload_n2 dX1_isPacked_2 rfl ?_
    refine g_bipushI dX1_isPacked_3 rfl rfl (fun w3 h3 => ?_)
    refine g_icmp_geI (t := 37) dX1_isPacked_5 (by decide) rfl (fun c5 => ?_) (fun c5 => ?_)
    · -- 5 t
      refine g_iconstI dX1_isPacked_37 rfl rfl (fun w37 h37 => ?_)
      refine g_zretI dX1_isPacked_38 rfl (by omega) ?_
      exact hQ _ (by omega) ⟨fun _ q hq => hall q (by omega), fun _ => by omega⟩
    · -- 5 f
      refine g_aload_n0 dX1_isPacked_8 rfl ?_
      refine g_getr dX1_isPacked_9 rfl fX1_11 hA.1 rfl ?_
      refine g_iload_n1 dX1_isPacked_12 rfl ?_
      refine g_bipushI dX1_isPacked_13 rfl rfl (fun w13 h13 => ?_)
      refine g_imulI dX1_isPacked_15 rfl ⟨by rw [h13]; omega, by rw [h13]; omega⟩ (fun w15 h15 => ?_)
      rw [h13] at h15
      refine g_iload_n2 dX1_isPacked_16 rfl ?_
      refine g_iaddI dX1_isPacked_17 rfl ⟨by omega, by omega⟩ (fun w17 h17 => ?_)
      refine g_lald dX1_isPacked_18 rfl hA.2.1 (i_in ⟨by omega, by omega⟩) ?_
      rw [show w17.toNatClampNeg = 6 * k + p.toInt.toNat by show w17.toInt.toNat = _; omega]
      refine g_aload_n0 dX1_isPacked_19 rfl ?_
      refine g_getr dX1_isPacked_20 rfl fX1_19 hA.1 rfl ?_
      refine g_iload_n2 dX1_isPacked_23 rfl ?_
      refine g_lald dX1_isPacked_24 rfl hA.2.2.2.1 (i_in ⟨by omega, by omega⟩) ?_
      rw [show p.toNatClampNeg = p.toInt.toNat from rfl]
      refine g_lcmp dX1_isPacked_25 rfl ?_
      refine g_if_eqI (t := 31) dX1_isPacked_26 (by decide) rfl (fun c26 => ?_) (fun c26 => ?_)
      · -- 26 t
        have heq := cmp_eq.mp c26
        refine g_iincI2 dX1_isPacked_31 rfl rfl rfl ⟨by omega, by omega⟩ (fun w31 h31 => ?_)
        refine g_goto (t := 2) dX1_isPacked_34 (by decide) ?_
        refine ih _ (show 6 - w31.toInt.toNat < n9 by omega) w31 rfl (by omega) (by omega) (fun q hq => ?_)
        by_cases hqp : q = p.toInt.toNat
        · rw [hqp]; exact heq
        · exact hall q (by omega)
      · -- 26 f
        have hne : ¬ M.2 251 (6 * k + p.toInt.toNat) = M.2 253 p.toInt.toNat := fun q => c26 (cmp_eq.mpr q)
        refine g_iconstI dX1_isPacked_29 rfl rfl (fun w29 h29 => ?_)
        refine g_zretI dX1_isPacked_30 rfl (by omega) ?_
        exact hQ _ (by omega) ⟨fun q => by omega, fun q => absurd (q p.toInt.toNat (by omega)) hne⟩
set_option maxHeartbeats 1200000 in
theorem c_isPacked {Γ : gW} (hA : g_Get Γ) {M : gM} {k : Nat} {kI : Int32} (hk : kI.toInt = (k : Int)) (hk2 : k < 1000) : Ct Γ yX1_isPacked μX1_isPacked 0 [.ref 250, .int kI] M (g_qi (fun z M1 => M1 = M ∧ (z.toInt = 0 ∨ z.toInt = 1) ∧ (z.toInt = 1 ↔ ∀ q, q < 6 → M.2 251 (6 * k + q) = M.2 253 q))) := by
  refine g_enter rfl rfl rfl (Nat.le_of_ble_eq_true rfl) ?_
  show G Γ _ _ _ _ 0 [some (.ref 250), some (.int kI), none] [] M
  refine g_iconstI dX1_isPacked_0 rfl rfl (fun w0 h0 => ?_)
  refine g_istore_n2 dX1_isPacked_1 rfl rfl ?_
  exact l_ip hA hk hk2 (fun z a b => ⟨z, rfl, rfl, a, b⟩) _ _ rfl (by omega) (by omega) (fun q hq => by omega)
def hsF (f : Nat → Int64) : Nat → Int64
  | 0 => 0
  | k + 1 => ((hsF f k ^^^ f k) * (-7046029254386353131)) ^^^ (((hsF f k ^^^ f k) * (-7046029254386353131)).toUInt64 >>> ((29 : Int32).toInt64.toUInt64 &&& Int64.toUInt64 63)).toInt64
def hS (f : Nat → Int64) : Int32 := ((hsF f 6).toUInt64 >>> ((40 : Int32).toInt64.toUInt64 &&& Int64.toUInt64 63)).toInt64.toInt32 &&& 2047
theorem hsF_ext {f g : Nat → Int64} : ∀ n, (∀ q, q < n → f q = g q) → hsF f n = hsF g n := by
  intro n
  induction n with
  | zero => intro _; rfl
  | succ n ih => intro h; rw [hsF, hsF, ih (fun q hq => h q (by omega)), h n (by omega)]
theorem hS_ext {f g : Nat → Int64} (h : ∀ q, q < 6 → f q = g q) : hS f = hS g := by rw [hS, hS, hsF_ext 6 h]
theorem hS_rng (f : Nat → Int64) : 0 ≤ (hS f).toInt ∧ (hS f).toInt < 2048 := by
  have h : bn (hS f) ≤ 2047 := by
    rw [hS, bn_and]; exact Nat.le_trans Nat.and_le_right (by decide)
  rw [i_bn (by omega)]; omega
set_option maxHeartbeats 1200000 in
theorem l_su {Γ : gW} (hA : g_Get Γ) {M : gM} {Q : Option Value → gM → Prop} (hQ : Q (some (.int (hS (M.2 253)))) M) : ∀ (n9 : Nat) (s : Int64) (p : Int32), 6 - p.toInt.toNat = n9 → 0 ≤ p.toInt → p.toInt ≤ 6 → s = hsF (M.2 253) p.toInt.toNat → G Γ μX1_sumOfPacked (g_R 0) (0, 0) (g_Z Γ Q) 4 [some (.ref 250), some (.long s), none, some (.int p)] [] M := by
  intro n9
  induction n9 using Nat.strongRecOn with
  | ind n9 ih =>
    intro s p h9 hp0 hp1 hs
    refine g_iload_n3 dX1_sumOfPacked_4 rfl ?_
    refine g_bipushI dX1_sumOfPacked_5 rfl rfl (fun w5 h5 => ?_)
    refine g_icmp_geI (t := 36) dX1_sumOfPacked_7 (by decide) rfl (fun c7 => ?_) (fun c7 => ?_)
    · -- 7 t
      refine g_lload_n1 dX1_sumOfPacked_36 rfl ?_
      refine g_bipush (v := 40) dX1_sumOfPacked_37 rfl rfl ?_
      refine g_lushr dX1_sumOfPacked_39 rfl ?_
      refine g_l2i dX1_sumOfPacked_40 rfl ?_
      refine g_sipush (v := 2047) dX1_sumOfPacked_41 rfl rfl ?_
      refine g_iand dX1_sumOfPacked_44 rfl ?_
      refine g_iret dX1_sumOfPacked_45 rfl ?_
      rw [hs, show p.toInt.toNat = 6 by omega]
      exact hQ
    · -- 7 f
      refine g_lload_n1 dX1_sumOfPacked_10 rfl ?_
      refine g_aload_n0 dX1_sumOfPacked_11 rfl ?_
      refine g_getr dX1_sumOfPacked_12 rfl fX1_19 hA.1 rfl ?_
      refine g_iload_n3 dX1_sumOfPacked_15 rfl ?_
      refine g_lald dX1_sumOfPacked_16 rfl hA.2.2.2.1 (i_in ⟨by omega, by omega⟩) ?_
      refine g_lxor dX1_sumOfPacked_17 rfl ?_
      refine g_ldc2 dX1_sumOfPacked_18 rfl jcX1_116 ?_
      refine g_lmul dX1_sumOfPacked_21 rfl ?_
      refine g_lstore_n1 dX1_sumOfPacked_22 rfl rfl ?_
      refine g_lload_n1 dX1_sumOfPacked_23 rfl ?_
      refine g_lload_n1 dX1_sumOfPacked_24 rfl ?_
      refine g_bipush (v := 29) dX1_sumOfPacked_25 rfl rfl ?_
      refine g_lushr dX1_sumOfPacked_27 rfl ?_
      refine g_lxor dX1_sumOfPacked_28 rfl ?_
      refine g_lstore_n1 dX1_sumOfPacked_29 rfl rfl ?_
      refine g_iincI3 dX1_sumOfPacked_30 rfl rfl rfl ⟨by omega, by omega⟩ (fun w30 h30 => ?_)
      refine g_goto (t := 4) dX1_sumOfPacked_33 (by decide) ?_
      refine ih _ (show 6 - w30.toInt.toNat < n9 by omega) _ w30 rfl (by omega) (by omega) ?_
      rw [show w30.toInt.toNat = p.toInt.toNat + 1 by omega, hs]; rfl
set_option maxHeartbeats 1200000 in
theorem c_sumOfPacked {Γ : gW} (hA : g_Get Γ) {M : gM} : Ct Γ yX1_sumOfPacked μX1_sumOfPacked 0 [.ref 250] M (g_qi (fun z M1 => M1 = M ∧ z = hS (M.2 253))) := by
  refine g_enter rfl rfl rfl (Nat.le_of_ble_eq_true rfl) ?_
  show G Γ _ _ _ _ 0 [some (.ref 250), none, none, none] [] M
  refine g_lconst (v := 0) dX1_sumOfPacked_0 rfl rfl ?_
  refine g_lstore_n1 dX1_sumOfPacked_1 rfl rfl ?_
  refine g_iconstI dX1_sumOfPacked_2 rfl rfl (fun w2 h2 => ?_)
  refine g_istore_n3 dX1_sumOfPacked_3 rfl rfl ?_
  exact l_su hA ⟨_, rfl, rfl, rfl⟩ _ _ _ rfl (by omega) (by omega) (by rw [show w2.toInt.toNat = 0 by omega]; rfl)
