theorem cntP_gap {P : Nat → Prop} {n m : Nat} (hnm : n ≤ m) (h : ∀ u, n ≤ u → u < m → ¬ P u) : cntP P m = cntP P n := by
  obtain ⟨k, rfl⟩ : ∃ k, m = n + k := ⟨m - n, by omega⟩
  clear hnm
  induction k with
  | zero => rfl
  | succ k ih =>
    rw [← Nat.add_assoc, cntP_no (h (n + k) (by omega) (by omega))]
    exact ih (fun u a b => h u a (by omega))
theorem fit_lt {T : gTw} {p u : Nat} (hO : TOK T) (hp : p < 6) (h : fitT T p u) : u < 4096 := by
  have h1 := sub_le h.2.1
  have h2 := (hO.2.2.2.2.2.2.1 p hp).2.2.2.2.2.1
  unfold hasT at h1
  omega
theorem chosen_rng {T : gTw} {p : Nat} {z : Int} (hO : TOK T) (hp : p < 6) (h : chosenT T p z) : -1 ≤ z ∧ z < 4096 := by
  have h2 := (hO.2.2.2.2.2.2.1 p hp).2.2.2.2.2.1
  rcases chosen_neg h with q | q
  · exact q
  · unfold hasT at q; omega
set_option maxHeartbeats 1200000 in
theorem x_thing {Γ : gW} {gt : Option Nat} {M : gM} (hA : g_HG Γ gt) {T : gTw} (hT : tv M 100 = T) (hB : TB M 100) {p w : Int32} : CtX Γ yX5_thing μX5_thing 2 [.ref 0, .int p, .int w] M (g_qi (fun z M1 => M1 = M ∧ (0 ≤ p.toInt ∧ p.toInt < T 0 1 ∧ 0 ≤ w.toInt ∧ w.toInt ≤ 3) ∧ z.toInt = thgT T p.toInt.toNat w.toInt)) (nseX M (¬ (0 ≤ p.toInt ∧ p.toInt < T 0 1 ∧ 0 ≤ w.toInt ∧ w.toInt ≤ 3))) := by
  have hO : TOK T := by rw [← hT]; exact TOK.of hB
  have hb0 := hO.1
  have hb1 := hO.2.1
  have t00 : (M.1 100 0).toInt = T 0 0 := by rw [← hT]; exact (tv0 (by decide)).symm
  have t01 : (M.1 100 1).toInt = T 0 1 := by rw [← hT]; exact (tv0 (by decide)).symm
  refine g_enterX rfl rfl rfl (Nat.le_of_ble_eq_true rfl) ?_
  show G Γ _ _ _ _ 0 [some (.ref 0), some (.int p), some (.int w)] [] M
  refine g_aload_n0 dX5_thing_0 rfl ?_
  refine g_iload_n1 dX5_thing_1 rfl ?_
  refine g_callXv1 dX5_thing_2 rfl vX5_156 hA.1 rfl (x_reqT hA t01) (g_rmY (by omega)) (Nat.le_of_ble_eq_true rfl) (fun E M1 h => ⟨h.1, h.2.1, by have := h.2.2; omega⟩) (fun M2 e2 => ?_)
  obtain ⟨hMM, q2⟩ := e2
  subst M2
  have hp12 : p.toInt.toNat < 12 := by omega
  refine g_iload_n2 dX5_thing_5 rfl ?_
  rcases (show w.toInt = 0 ∨ w.toInt = 1 ∨ w.toInt = 2 ∨ w.toInt = 3 ∨ (w.toInt < 0 ∨ 3 < w.toInt) by omega) with c6 | c6 | c6 | c6 | c6
  · -- 6 case 0
    refine g_tableIn (off := 30) (t := 36) dX5_thing_6 (by omega) (by omega) (by rw [c6]; rfl) (by decide) ?_
    refine g_aload_n0 dX5_thing_36 rfl ?_
    refine g_getr dX5_thing_37 rfl fX5_10 hA.1 rfl ?_
    refine g_getr dX5_thing_40 rfl fX5_159 (hg_town hA).1 rfl ?_
    refine g_iload_n1 dX5_thing_43 rfl ?_
    refine g_ialdI dX5_thing_44 rfl (tw_weight (hg_town hA)) ⟨by omega, by omega⟩ ?_
    refine g_toX ?_
    refine g_iret dX5_thing_45 rfl ?_
    exact ⟨_, rfl, rfl, by omega, by rw [c6, ← hT]; exact (tvw (f := 7) (Or.inl rfl) hp12).symm⟩
  · -- 6 case 1
    refine g_tableIn (off := 40) (t := 46) dX5_thing_6 (by omega) (by omega) (by rw [c6]; rfl) (by decide) ?_
    refine g_aload_n0 dX5_thing_46 rfl ?_
    refine g_getr dX5_thing_47 rfl fX5_10 hA.1 rfl ?_
    refine g_getr dX5_thing_50 rfl fX5_162 (hg_town hA).1 rfl ?_
    refine g_iload_n1 dX5_thing_53 rfl ?_
    refine g_ialdI dX5_thing_54 rfl (tw_worth (hg_town hA)) ⟨by omega, by omega⟩ ?_
    refine g_toX ?_
    refine g_iret dX5_thing_55 rfl ?_
    exact ⟨_, rfl, rfl, by omega, by rw [c6, ← hT]; exact (tvw (f := 8) (Or.inr rfl) hp12).symm⟩
  · -- 6 case 2
    refine g_tableIn (off := 50) (t := 56) dX5_thing_6 (by omega) (by omega) (by rw [c6]; rfl) (by decide) ?_
    refine g_aload_n0 dX5_thing_56 rfl ?_
    refine g_getr dX5_thing_57 rfl fX5_10 hA.1 rfl ?_
    refine g_iload_n1 dX5_thing_60 rfl ?_
    refine g_callVi1 dX5_thing_61 rfl vX5_165 (hg_town hA).1 rfl (c_holderOf (hg_town hA) hB (by omega)) (g_rmX (by omega)) (Nat.le_of_ble_eq_true rfl) (fun z61 M61 e61 => ?_)
    obtain ⟨hMM, e61⟩ := e61
    subst M61
    refine g_toX ?_
    refine g_iret dX5_thing_64 rfl ?_
    exact ⟨_, rfl, rfl, by omega, by rw [c6, e61, v_hold hB, hT]; rfl⟩
  · -- 6 case 3
    refine g_tableIn (off := 59) (t := 65) dX5_thing_6 (by omega) (by omega) (by rw [c6]; rfl) (by decide) ?_
    refine g_aload_n0 dX5_thing_65 rfl ?_
    refine g_getr dX5_thing_66 rfl fX5_10 hA.1 rfl ?_
    refine g_geti dX5_thing_69 rfl fX5_168 (hg_town hA).1 rfl ?_
    refine g_iload_n1 dX5_thing_72 rfl ?_
    refine g_iushrB dX5_thing_73 rfl ⟨by omega, by omega⟩ (fun w73 h73 => ?_)
    refine g_iconstI dX5_thing_74 rfl rfl (fun w74 h74 => ?_)
    refine g_iandB dX5_thing_75 rfl  (fun w75 h75 => ?_)
    have e1 := bn_lit (n := 1) h74
    have h5 : T 0 5 = (M.1 100 5).toInt := by rw [← hT]; exact tv0 (by decide)
    have hb5 := hO.2.2.2.2.2.1
    have hb5n : bn (M.1 100 5) = (T 0 5).toNat := by rw [h5]; exact bn_toNat (by omega)
    rw [h73, e1, hb5n, bit_and1] at h75
    have h75c : w75.toInt = if (T 0 5).toNat.testBit p.toInt.toNat then 1 else 0 := by
      rw [i_bn (by rw [h75]; split <;> omega), h75]; split <;> rfl
    refine g_toX ?_
    refine g_iret dX5_thing_76 rfl ?_
    refine ⟨_, rfl, rfl, by omega, ?_⟩
    rw [c6, h75c]
    rfl
  · -- 6 default
    refine g_tableOut (t := 77) dX5_thing_6 (by omega) (by decide) ?_
    refine g_throw thN dX5_thing_77 dX5_thing_80 dX5_thing_81 dX5_thing_84 rfl rfl rfl ⟨by show 7 ≤ _ + 8; omega, by show 100 ≤ 150 + 50 * _; omega, Nat.le_refl _, Nat.le_refl _⟩ (Nat.le_of_ble_eq_true rfl) ?_
    exact ⟨rfl, rfl, by omega⟩
set_option maxHeartbeats 1200000 in
theorem x_gift {Γ : gW} {gt : Option Nat} {M : gM} (hA : g_HG Γ gt) (hg : 0 ≤ (M.1 220 0).toInt ∧ (M.1 220 0).toInt ≤ 200) {i w : Int32} : CtX Γ yX5_gift μX5_gift 1 [.ref 0, .int i, .int w] M (g_qi (fun z M1 => M1 = M ∧ (0 ≤ i.toInt ∧ i.toInt < (M.1 220 0).toInt ∧ 0 ≤ w.toInt ∧ w.toInt ≤ 4) ∧ z = M.1 221 (i.toInt.toNat * 9 + w.toInt.toNat))) (nseX M (¬ (0 ≤ i.toInt ∧ i.toInt < (M.1 220 0).toInt ∧ 0 ≤ w.toInt ∧ w.toInt ≤ 4))) := by
  refine g_enterX rfl rfl rfl (Nat.le_of_ble_eq_true rfl) ?_
  show G Γ _ _ _ _ 0 [some (.ref 0), some (.int i), some (.int w)] [] M
  refine g_iload_n1 dX5_gift_0 rfl ?_
  refine g_if_ltI (t := 24) dX5_gift_1 (by decide) rfl (fun c1 => ?_) (fun c1 => ?_)
  · -- 1 t
    refine g_throw thN dX5_gift_24 dX5_gift_27 dX5_gift_28 dX5_gift_31 rfl rfl rfl ⟨by show 7 ≤ _ + 8; omega, by show 100 ≤ 150 + 50 * _; omega, Nat.le_refl _, Nat.le_refl _⟩ (Nat.le_of_ble_eq_true rfl) ?_
    exact ⟨rfl, rfl, by omega⟩
  · -- 1 f
    refine g_iload_n1 dX5_gift_4 rfl ?_
    refine g_aload_n0 dX5_gift_5 rfl ?_
    refine g_getr dX5_gift_6 rfl fX5_22 hA.1 rfl ?_
    refine g_callVi0 dX5_gift_9 rfl vX5_128 (hg_book hA).1 rfl (c_bkLength (hg_book hA)) (g_rmX (by omega)) (Nat.le_of_ble_eq_true rfl) (fun z9 M9 e9 => ?_)
    obtain ⟨hMM, e9⟩ := e9
    subst M9
    have e9i : z9.toInt = (M.1 220 0).toInt := by rw [e9]
    refine g_icmp_geI (t := 24) dX5_gift_12 (by decide) rfl (fun c12 => ?_) (fun c12 => ?_)
    · -- 12 t
      refine g_throw thN dX5_gift_24 dX5_gift_27 dX5_gift_28 dX5_gift_31 rfl rfl rfl ⟨by show 7 ≤ _ + 8; omega, by show 100 ≤ 150 + 50 * _; omega, Nat.le_refl _, Nat.le_refl _⟩ (Nat.le_of_ble_eq_true rfl) ?_
      exact ⟨rfl, rfl, by omega⟩
    · -- 12 f
      refine g_iload_n2 dX5_gift_15 rfl ?_
      refine g_if_ltI (t := 24) dX5_gift_16 (by decide) rfl (fun c16 => ?_) (fun c16 => ?_)
      · -- 16 t
        refine g_throw thN dX5_gift_24 dX5_gift_27 dX5_gift_28 dX5_gift_31 rfl rfl rfl ⟨by show 7 ≤ _ + 8; omega, by show 100 ≤ 150 + 50 * _; omega, Nat.le_refl _, Nat.le_refl _⟩ (Nat.le_of_ble_eq_true rfl) ?_
        exact ⟨rfl, rfl, by omega⟩
      · -- 16 f
        refine g_iload_n2 dX5_gift_19 rfl ?_
        refine g_iconstI dX5_gift_20 rfl rfl (fun w20 h20 => ?_)
        refine g_icmp_leI (t := 32) dX5_gift_21 (by decide) rfl (fun c21 => ?_) (fun c21 => ?_)
        · -- 21 t
          refine g_aload_n0 dX5_gift_32 rfl ?_
          refine g_getr dX5_gift_33 rfl fX5_22 hA.1 rfl ?_
          refine g_iload_n1 dX5_gift_36 rfl ?_
          refine g_iload_n2 dX5_gift_37 rfl ?_
          refine g_callVi2 dX5_gift_38 rfl vX5_193 (hg_book hA).1 rfl (c_bkEntry (hg_book hA) (by omega) (by omega)) (g_rmX (by omega)) (Nat.le_of_ble_eq_true rfl) (fun z38 M38 e38 => ?_)
          obtain ⟨hMM, e38⟩ := e38
          subst M38
          refine g_toX ?_
          refine g_iret dX5_gift_41 rfl ?_
          exact ⟨_, rfl, rfl, by omega, e38⟩
        · -- 21 f
          refine g_throw thN dX5_gift_24 dX5_gift_27 dX5_gift_28 dX5_gift_31 rfl rfl rfl ⟨by show 7 ≤ _ + 8; omega, by show 100 ≤ 150 + 50 * _; omega, Nat.le_refl _, Nat.le_refl _⟩ (Nat.le_of_ble_eq_true rfl) ?_
          exact ⟨rfl, rfl, by omega⟩
set_option maxHeartbeats 1200000 in
theorem x_order {Γ : gW} {gt : Option Nat} {M : gM} (hA : g_HG Γ gt) (hg : (M.1 0 14).toInt ≤ 6) {i : Int32} : CtX Γ yX5_order μX5_order 0 [.ref 0, .int i] M (g_qi (fun z M1 => M1 = M ∧ (0 ≤ i.toInt ∧ i.toInt < (M.1 0 14).toInt) ∧ z = M.1 1 i.toInt.toNat)) (nseX M (¬ (0 ≤ i.toInt ∧ i.toInt < (M.1 0 14).toInt))) := by
  refine g_enterX rfl rfl rfl (Nat.le_of_ble_eq_true rfl) ?_
  show G Γ _ _ _ _ 0 [some (.ref 0), some (.int i)] [] M
  refine g_iload_n1 dX5_order_0 rfl ?_
  refine g_if_ltI (t := 12) dX5_order_1 (by decide) rfl (fun c1 => ?_) (fun c1 => ?_)
  · -- 1 t
    refine g_throw thN dX5_order_12 dX5_order_15 dX5_order_16 dX5_order_19 rfl rfl rfl ⟨by show 7 ≤ _ + 8; omega, by show 100 ≤ 150 + 50 * _; omega, Nat.le_refl _, Nat.le_refl _⟩ (Nat.le_of_ble_eq_true rfl) ?_
    exact ⟨rfl, rfl, by omega⟩
  · -- 1 f
    refine g_iload_n1 dX5_order_4 rfl ?_
    refine g_aload_n0 dX5_order_5 rfl ?_
    refine g_geti dX5_order_6 rfl fX5_70 hA.1 rfl ?_
    refine g_icmp_ltI (t := 20) dX5_order_9 (by decide) rfl (fun c9 => ?_) (fun c9 => ?_)
    · -- 9 t
      refine g_aload_n0 dX5_order_20 rfl ?_
      refine g_getr dX5_order_21 rfl fX5_66 hA.1 rfl ?_
      refine g_iload_n1 dX5_order_24 rfl ?_
      refine g_ialdI dX5_order_25 rfl (hg_keptOrder hA) ⟨by omega, by omega⟩ ?_
      refine g_toX ?_
      refine g_iret dX5_order_26 rfl ?_
      exact ⟨_, rfl, rfl, by omega, rfl⟩
    · -- 9 f
      refine g_throw thN dX5_order_12 dX5_order_15 dX5_order_16 dX5_order_19 rfl rfl rfl ⟨by show 7 ≤ _ + 8; omega, by show 100 ≤ 150 + 50 * _; omega, Nat.le_refl _, Nat.le_refl _⟩ (Nat.le_of_ble_eq_true rfl) ?_
      exact ⟨rfl, rfl, by omega⟩
set_option maxHeartbeats 1200000 in
theorem lx_sets {Γ : gW} {gt : Option Nat} {M : gM} (hA : g_HG Γ gt) {T : gTw} (hT : tv M 100 = T) (hB : TB M 100) {p : Int32} (hp : 0 ≤ p.toInt ∧ p.toInt < T 0 0) {Q : Option Value → gM → Prop} (hQ : ∀ z : Int32, z.toInt = cntP (fitT T p.toInt.toNat) 4096 → Q (some (.int z)) M) : ∀ (n9 : Nat) (c z k : Int32), 4096 - k.toInt.toNat = n9 → (0 ≤ k.toInt ∧ k.toInt ≤ 4096) → ((z.toInt = -1 ∧ c.toInt = cntP (fitT T p.toInt.toNat) 4096) ∨ ∃ m : Nat, z.toInt = (m : Int) ∧ fitT T p.toInt.toNat m ∧ c.toInt = cntP (fitT T p.toInt.toNat) m ∧ k.toInt ≤ (m : Int)) → G Γ μX5_sets (g_RX 3) (0, 0) (g_Z Γ Q) 20 [some (.ref 0), some (.int p), some (.int c), some (.int z), some (.int k)] [] M := by
  intro n9
  induction n9 using Nat.strongRecOn with
  | ind n9 ih =>
    intro c z k hn hk hz
    have hO : TOK T := by rw [← hT]; exact TOK.of hB
    have hb0 := hO.1
    have hp6 : p.toInt.toNat < 6 := by omega
    have hcr : 0 ≤ c.toInt ∧ c.toInt ≤ 4096 := by
      rcases hz with ⟨-, h⟩ | ⟨m, -, hf, h, -⟩
      · have := cntP_rng (fitT T p.toInt.toNat) 4096
        omega
      · have := cntP_rng (fitT T p.toInt.toNat) m
        have := fit_lt hO hp6 hf
        omega
    refine g_iload4 dX5_sets_20 rfl ?_
    refine g_sipushI dX5_sets_22 rfl rfl (fun w22 h22 => ?_)
    refine g_icmp_geI (t := 52) dX5_sets_25 (by decide) rfl (fun c25 => ?_) (fun c25 => ?_)
    · -- 25 t
      refine g_iload_n2 dX5_sets_52 rfl ?_
      refine g_iret dX5_sets_53 rfl ?_
      refine hQ _ ?_
      rcases hz with ⟨-, h⟩ | ⟨m, hz1, hf, h, hkm⟩
      · exact h
      · have := fit_lt hO hp6 hf
        exfalso; omega
    · -- 25 f
      refine g_iload_n3 dX5_sets_28 rfl ?_
      refine g_iconstI dX5_sets_29 rfl rfl (fun w29 h29 => ?_)
      refine g_icmp_eqI (t := 52) dX5_sets_30 (by decide) rfl (fun c30 => ?_) (fun c30 => ?_)
      · -- 30 t
        refine g_iload_n2 dX5_sets_52 rfl ?_
        refine g_iret dX5_sets_53 rfl ?_
        refine hQ _ ?_
        rcases hz with ⟨-, h⟩ | ⟨m, hz1, hf, h, hkm⟩
        · exact h
        · have := fit_lt hO hp6 hf
          exfalso; omega
      · -- 30 f
        obtain ⟨m, hz1, hf, hc, hkm⟩ : ∃ m : Nat, z.toInt = (m : Int) ∧ fitT T p.toInt.toNat m ∧ c.toInt = cntP (fitT T p.toInt.toNat) m ∧ k.toInt ≤ (m : Int) := by
          rcases hz with h | h
          · exact absurd h.1 (by omega)
          · exact h
        clear hz
        have hm4 := fit_lt hO hp6 hf
        have hzb : bn z = m := bn_lit hz1
        refine g_iincI2 dX5_sets_33 rfl rfl rfl ⟨by omega, by omega⟩ (fun w33 h33 => ?_)
        refine g_aload_n0 dX5_sets_36 rfl ?_
        refine g_getr dX5_sets_37 rfl fX5_10 hA.1 rfl ?_
        refine g_iload_n1 dX5_sets_40 rfl ?_
        refine g_iload_n3 dX5_sets_41 rfl ?_
        refine g_callVi2 dX5_sets_42 rfl vX5_197 (hg_town hA).1 rfl (c_nextFit (hg_town hA) hB (by omega) (Or.inr ⟨by omega, by rw [hzb, v_has hB hp6, hT]; exact hf.2.1⟩)) (g_rmX (by omega)) (Nat.le_of_ble_eq_true rfl) (fun z42 M42 e42 => ?_)
        obtain ⟨hMM, e42⟩ := e42
        subst M42
        have hnx := nf_T hB hT hp6 e42
        clear e42
        rw [hz1] at hnx
        refine g_istore_n3 dX5_sets_45 rfl rfl ?_
        refine g_iincI4 dX5_sets_46 rfl rfl rfl ⟨by omega, by omega⟩ (fun w46 h46 => ?_)
        refine g_goto (t := 20) dX5_sets_49 (by decide) ?_
        refine ih _ ?_ _ _ _ rfl (by omega) ?_
        · clear hnx; omega
        · have hc1 : w33.toInt = cntP (fitT T p.toInt.toNat) (m + 1) := by rw [cntP_yes hf]; clear hnx; omega
          rcases hnx with ⟨h1, h2⟩ | ⟨m2, h1, h2, h3, h4⟩
          · exact Or.inl ⟨h1, by rw [hc1]; exact (cntP_gap (by omega) (fun u a b => h2 u (by omega))).symm⟩
          · exact Or.inr ⟨m2, h1, h3, by rw [hc1]; exact (cntP_gap (by omega) (fun u a b => h4 u (by omega) b)).symm, by omega⟩
set_option maxHeartbeats 1200000 in
theorem x_sets {Γ : gW} {gt : Option Nat} {M : gM} (hA : g_HG Γ gt) {T : gTw} (hT : tv M 100 = T) (hB : TB M 100) {p : Int32} : CtX Γ yX5_sets μX5_sets 3 [.ref 0, .int p] M (g_qi (fun z M1 => M1 = M ∧ (0 ≤ p.toInt ∧ p.toInt < T 0 0) ∧ z.toInt = cntP (fitT T p.toInt.toNat) 4096)) (nseX M (¬ (0 ≤ p.toInt ∧ p.toInt < T 0 0))) := by
  have hO : TOK T := by rw [← hT]; exact TOK.of hB
  have hb0 := hO.1
  have hb1 := hO.2.1
  have t00 : (M.1 100 0).toInt = T 0 0 := by rw [← hT]; exact (tv0 (by decide)).symm
  have t01 : (M.1 100 1).toInt = T 0 1 := by rw [← hT]; exact (tv0 (by decide)).symm
  refine g_enterX rfl rfl rfl (Nat.le_of_ble_eq_true rfl) ?_
  show G Γ _ _ _ _ 0 [some (.ref 0), some (.int p), none, none, none] [] M
  refine g_aload_n0 dX5_sets_0 rfl ?_
  refine g_iload_n1 dX5_sets_1 rfl ?_
  refine g_callXv1 dX5_sets_2 rfl vX5_132 hA.1 rfl (x_reqP hA t00) (g_rmY (by omega)) (Nat.le_of_ble_eq_true rfl) (fun E M1 h => ⟨h.1, h.2.1, by have := h.2.2; omega⟩) (fun M2 e2 => ?_)
  obtain ⟨hMM, q2⟩ := e2
  subst M2
  refine g_iconstI dX5_sets_5 rfl rfl (fun w5 h5 => ?_)
  refine g_istore_n2 dX5_sets_6 rfl rfl ?_
  refine g_aload_n0 dX5_sets_7 rfl ?_
  refine g_getr dX5_sets_8 rfl fX5_10 hA.1 rfl ?_
  refine g_iload_n1 dX5_sets_11 rfl ?_
  refine g_iconstI dX5_sets_12 rfl rfl (fun w12 h12 => ?_)
  refine g_callVi2 dX5_sets_13 rfl vX5_197 (hg_town hA).1 rfl (c_nextFit (hg_town hA) hB (by omega) (Or.inl h12)) (g_rmX (by omega)) (Nat.le_of_ble_eq_true rfl) (fun z13 M13 e13 => ?_)
  obtain ⟨hMM, e13⟩ := e13
  subst M13
  have hnx := nf_T hB hT (by omega) e13
  clear e13
  rw [h12] at hnx
  refine g_istore_n3 dX5_sets_16 rfl rfl ?_
  refine g_iconstI dX5_sets_17 rfl rfl (fun w17 h17 => ?_)
  refine g_istore4 dX5_sets_18 rfl rfl ?_
  refine g_toX ?_
  refine lx_sets hA hT hB q2 (fun z hz => ⟨_, rfl, rfl, q2, hz⟩) _ _ _ _ rfl (by clear hnx; omega) ?_
  rcases hnx with ⟨h1, h2⟩ | ⟨m2, h1, h2, h3, h4⟩
  · exact Or.inl ⟨h1, by rw [h5]; exact (cntP_gap (n := 0) (by omega) (fun u a b => h2 u (by omega))).symm⟩
  · exact Or.inr ⟨m2, h1, h3, by rw [h5]; exact (cntP_gap (n := 0) (by omega) (fun u a b => h4 u (by omega) b)).symm, by omega⟩
set_option maxHeartbeats 1200000 in
theorem x_choice {Γ : gW} {gt : Option Nat} {M : gM} (hA : g_HG Γ gt) {T : gTw} (hT : tv M 100 = T) (hB : TB M 100) {p w : Int32} : CtX Γ yX5_choice μX5_choice 4 [.ref 0, .int p, .int w] M (g_qi (fun z M1 => M1 = M ∧ (0 ≤ p.toInt ∧ p.toInt < T 0 0 ∧ 0 ≤ w.toInt ∧ w.toInt ≤ 2) ∧ ((chosenT T p.toInt.toNat (-1) ∧ z.toInt = -1) ∨ ∃ n : Nat, chosenT T p.toInt.toNat (n : Int) ∧ z.toInt = if w.toInt = 0 then (n : Int) else if w.toInt = 1 then sandT T p.toInt.toNat n else takerT T p.toInt.toNat))) (nseX M (¬ (0 ≤ p.toInt ∧ p.toInt < T 0 0 ∧ 0 ≤ w.toInt ∧ w.toInt ≤ 2))) := by
  have hO : TOK T := by rw [← hT]; exact TOK.of hB
  have hb0 := hO.1
  have hb1 := hO.2.1
  have t00 : (M.1 100 0).toInt = T 0 0 := by rw [← hT]; exact (tv0 (by decide)).symm
  have t01 : (M.1 100 1).toInt = T 0 1 := by rw [← hT]; exact (tv0 (by decide)).symm
  refine g_enterX rfl rfl rfl (Nat.le_of_ble_eq_true rfl) ?_
  show G Γ _ _ _ _ 0 [some (.ref 0), some (.int p), some (.int w), none] [] M
  refine g_aload_n0 dX5_choice_0 rfl ?_
  refine g_iload_n1 dX5_choice_1 rfl ?_
  refine g_callXv1 dX5_choice_2 rfl vX5_132 hA.1 rfl (x_reqP hA t00) (g_rmY (by omega)) (Nat.le_of_ble_eq_true rfl) (fun E M1 h => ⟨h.1, h.2.1, by have := h.2.2; omega⟩) (fun M2 e2 => ?_)
  obtain ⟨hMM, q2⟩ := e2
  subst M2
  refine g_aload_n0 dX5_choice_5 rfl ?_
  refine g_iload_n2 dX5_choice_6 rfl ?_
  refine g_iconstI dX5_choice_7 rfl rfl (fun w7 h7 => ?_)
  refine g_callXv2 dX5_choice_8 rfl vX5_200 hA.1 rfl (x_reqW) (g_rmY (by omega)) (Nat.le_of_ble_eq_true rfl) (fun E M1 h => ⟨h.1, h.2.1, by have := h.2.2; omega⟩) (fun M8 e8 => ?_)
  obtain ⟨hMM, q8⟩ := e8
  subst M8
  refine g_aload_n0 dX5_choice_11 rfl ?_
  refine g_getr dX5_choice_12 rfl fX5_10 hA.1 rfl ?_
  refine g_iload_n1 dX5_choice_15 rfl ?_
  refine g_callVi1 dX5_choice_16 rfl vX5_204 (hg_town hA).1 rfl (c_chosenSet (hg_town hA) hB (by omega)) (g_rmX (by omega)) (Nat.le_of_ble_eq_true rfl) (fun z16 M16 e16 => ?_)
  have hp6 : p.toInt.toNat < 6 := by omega
  obtain ⟨hMM, e16⟩ := e16
  subst M16
  rw [v_chosen hB hp6, hT] at e16
  have hzr := chosen_rng hO hp6 e16
  refine g_istore_n3 dX5_choice_19 rfl rfl ?_
  refine g_iload_n3 dX5_choice_20 rfl ?_
  refine g_iconstI dX5_choice_21 rfl rfl (fun w21 h21 => ?_)
  refine g_icmp_neI (t := 27) dX5_choice_22 (by decide) rfl (fun c22 => ?_) (fun c22 => ?_)
  · -- 22 t
    obtain ⟨n, hz⟩ : ∃ n : Nat, z16.toInt = (n : Int) := ⟨z16.toInt.toNat, by omega⟩
    have hch : chosenT T p.toInt.toNat (n : Int) := by rw [← hz]; exact e16
    refine g_iload_n2 dX5_choice_27 rfl ?_
    rcases (show w.toInt = 0 ∨ w.toInt = 1 ∨ (¬ w.toInt = 0 ∧ ¬ w.toInt = 1) by omega) with c28 | c28 | c28
    · -- 28 case 0
      refine g_lookup (off := 28) (t := 56) dX5_choice_28 (by decide) (by rw [c28]; rfl) (by decide) ?_
      refine g_iload_n3 dX5_choice_56 rfl ?_
      refine g_toX ?_
      refine g_iret dX5_choice_57 rfl ?_
      exact ⟨_, rfl, rfl, by omega, Or.inr ⟨n, hch, by rw [c28, hz]; rfl⟩⟩
    · -- 28 case 1
      refine g_lookup (off := 30) (t := 58) dX5_choice_28 (by decide) (by rw [c28]; rfl) (by decide) ?_
      refine g_aload_n0 dX5_choice_58 rfl ?_
      refine g_getr dX5_choice_59 rfl fX5_10 hA.1 rfl ?_
      refine g_iload_n1 dX5_choice_62 rfl ?_
      refine g_iload_n3 dX5_choice_63 rfl ?_
      refine g_callVi2 dX5_choice_64 rfl vX5_207 (hg_town hA).1 rfl (c_sandFor (hg_town hA) hB (by omega) (by omega)) (g_rmX (by omega)) (Nat.le_of_ble_eq_true rfl) (fun z64 M64 e64 => ?_)
      obtain ⟨hMM, e64⟩ := e64
      subst M64
      refine g_toX ?_
      refine g_iret dX5_choice_67 rfl ?_
      refine ⟨_, rfl, rfl, by omega, Or.inr ⟨n, hch, ?_⟩⟩
      rw [c28, e64, v_sand hp6, hT, show z16.toInt.toNat = n by omega]; rfl
    · -- 28 default
      refine g_lookup (off := 40) (t := 68) dX5_choice_28 (by decide) (by simp [Op.lookupswitch.offset]; omega) (by decide) ?_
      refine g_aload_n0 dX5_choice_68 rfl ?_
      refine g_getr dX5_choice_69 rfl fX5_10 hA.1 rfl ?_
      refine g_iload_n1 dX5_choice_72 rfl ?_
      refine g_callVi1 dX5_choice_73 rfl vX5_210 (hg_town hA).1 rfl (c_takerFor (hg_town hA) hB (by omega)) (g_rmX (by omega)) (Nat.le_of_ble_eq_true rfl) (fun z73 M73 e73 => ?_)
      obtain ⟨hMM, e73⟩ := e73
      subst M73
      refine g_toX ?_
      refine g_iret dX5_choice_76 rfl ?_
      refine ⟨_, rfl, rfl, by omega, Or.inr ⟨n, hch, ?_⟩⟩
      rw [if_neg c28.1, if_neg c28.2, e73, v_taker hB hp6, hT]
  · -- 22 f
    refine g_iconstI dX5_choice_25 rfl rfl (fun w25 h25 => ?_)
    refine g_toX ?_
    refine g_iret dX5_choice_26 rfl ?_
    exact ⟨_, rfl, rfl, by omega, Or.inl ⟨by rw [show (-1 : Int) = z16.toInt by omega]; exact e16, by omega⟩⟩
theorem near_rng {T : gTw} {p : Nat} {z : Int} (hO : TOK T) (hp : p < 6) (h : nearT T p z) : -1 ≤ z ∧ z ≤ 100000 := by
  rcases h with ⟨h, -⟩ | ⟨u, h1, h2, h3, -⟩
  · omega
  · have hb := hO.2.2.2.2.2.2.1 p hp
    have hw := wsum_le (w := T 7) (B := 99) (n := 12) (s := u) (fun j hj => (hO.2.2.2.2.2.2.2 j (by omega)).1) (by omega)
    have hw2 : 0 ≤ wtT T u ∧ wtT T u ≤ 1188 := by rw [wtT]; omega
    rw [h3, offT, mx, mx]
    split <;> split <;> omega
set_option maxHeartbeats 1200000 in
theorem x_gap {Γ : gW} {gt : Option Nat} {M : gM} (hA : g_HG Γ gt) {T : gTw} (hT : tv M 100 = T) (hB : TB M 100) {p : Int32} : CtX Γ yX5_gap μX5_gap 2 [.ref 0, .int p] M (g_qi (fun z M1 => M1 = M ∧ (0 ≤ p.toInt ∧ p.toInt < T 0 0) ∧ ((T 4 p.toInt.toNat = 0 ∧ z.toInt = -1) ∨ (¬ T 4 p.toInt.toNat = 0 ∧ ∃ y : Int, nearT T p.toInt.toNat y ∧ z.toInt = if y = -1 then T 4 p.toInt.toNat else if 0 < y - T 0 3 then y - T 0 3 else 0)))) (nseX M (¬ (0 ≤ p.toInt ∧ p.toInt < T 0 0))) := by
  have hO : TOK T := by rw [← hT]; exact TOK.of hB
  have hb0 := hO.1
  have hb1 := hO.2.1
  have t00 : (M.1 100 0).toInt = T 0 0 := by rw [← hT]; exact (tv0 (by decide)).symm
  have t01 : (M.1 100 1).toInt = T 0 1 := by rw [← hT]; exact (tv0 (by decide)).symm
  refine g_enterX rfl rfl rfl (Nat.le_of_ble_eq_true rfl) ?_
  show G Γ _ _ _ _ 0 [some (.ref 0), some (.int p), none, none] [] M
  refine g_aload_n0 dX5_gap_0 rfl ?_
  refine g_iload_n1 dX5_gap_1 rfl ?_
  refine g_callXv1 dX5_gap_2 rfl vX5_132 hA.1 rfl (x_reqP hA t00) (g_rmY (by omega)) (Nat.le_of_ble_eq_true rfl) (fun E M1 h => ⟨h.1, h.2.1, by have := h.2.2; omega⟩) (fun M2 e2 => ?_)
  obtain ⟨hMM, q2⟩ := e2
  subst M2
  have hp6 : p.toInt.toNat < 6 := by omega
  have h4 : (M.1 104 p.toInt.toNat).toInt = T 4 p.toInt.toNat := by rw [← hT]; exact (tvp (f := 4) (by decide) hp6).symm
  have h03 : (M.1 100 3).toInt = T 0 3 := by rw [← hT]; exact (tv0 (by decide)).symm
  have hb3 := hO.2.2.2.1
  have hbp := hO.2.2.2.2.2.2.1 p.toInt.toNat hp6
  refine g_aload_n0 dX5_gap_5 rfl ?_
  refine g_getr dX5_gap_6 rfl fX5_10 hA.1 rfl ?_
  refine g_getr dX5_gap_9 rfl fX5_141 (hg_town hA).1 rfl ?_
  refine g_iload_n1 dX5_gap_12 rfl ?_
  refine g_ialdI dX5_gap_13 rfl (tw_owed (hg_town hA)) ⟨by omega, by omega⟩ ?_
  refine g_istore_n2 dX5_gap_14 rfl rfl ?_
  refine g_iload_n2 dX5_gap_15 rfl ?_
  refine g_if_neI (t := 21) dX5_gap_16 (by decide) rfl (fun c16 => ?_) (fun c16 => ?_)
  · -- 16 t
    have c16b : ¬ T 4 p.toInt.toNat = 0 := by rw [← h4]; exact c16
    refine g_aload_n0 dX5_gap_21 rfl ?_
    refine g_getr dX5_gap_22 rfl fX5_10 hA.1 rfl ?_
    refine g_iload_n1 dX5_gap_25 rfl ?_
    refine g_callVi1 dX5_gap_26 rfl vX5_213 (hg_town hA).1 rfl (c_nearest (hg_town hA) hB (by omega)) (g_rmX (by omega)) (Nat.le_of_ble_eq_true rfl) (fun z26 M26 e26 => ?_)
    obtain ⟨hMM, e26⟩ := e26
    subst M26
    have hne := v_near hB hp6 e26
    rw [hT] at hne
    clear e26
    have hyr : -1 ≤ z26.toInt ∧ z26.toInt ≤ 100000 := near_rng hO hp6 hne
    refine g_istore_n3 dX5_gap_29 rfl rfl ?_
    refine g_iload_n3 dX5_gap_30 rfl ?_
    refine g_iconstI dX5_gap_31 rfl rfl (fun w31 h31 => ?_)
    refine g_icmp_neI (t := 39) dX5_gap_32 (by decide) rfl (fun c32 => ?_) (fun c32 => ?_)
    · -- 32 t
      refine g_iconstI dX5_gap_39 rfl rfl (fun w39 h39 => ?_)
      refine g_iload_n3 dX5_gap_40 rfl ?_
      refine g_aload_n0 dX5_gap_41 rfl ?_
      refine g_getr dX5_gap_42 rfl fX5_10 hA.1 rfl ?_
      refine g_geti dX5_gap_45 rfl fX5_122 (hg_town hA).1 rfl ?_
      refine g_isubI dX5_gap_48 rfl ⟨by omega, by omega⟩ (fun w48 h48 => ?_)
      refine g_mmaxI dX5_gap_49 rfl jX5_216 jm_max_s jm_i jm_max_c ⟨by show 1 ≤ _ + 8; omega, by show _ ≤ 150 + 50 * _; simp [Value.category] <;> omega⟩  (fun w49 h49 => ?_)
      refine g_toX ?_
      refine g_iret dX5_gap_52 rfl ?_
      refine ⟨_, rfl, rfl, by omega, Or.inr ⟨c16b, _, hne, ?_⟩⟩
      first
        | (rw [if_pos (show z26.toInt = -1 by omega)]; exact h4)
        | (rw [if_neg (show ¬ z26.toInt = -1 by omega), h49, h48, h39, h03])
    · -- 32 f
      refine g_iload_n2 dX5_gap_35 rfl ?_
      refine g_goto (t := 52) dX5_gap_36 (by decide) ?_
      refine g_toX ?_
      refine g_iret dX5_gap_52 rfl ?_
      refine ⟨_, rfl, rfl, by omega, Or.inr ⟨c16b, _, hne, ?_⟩⟩
      first
        | (rw [if_pos (show z26.toInt = -1 by omega)]; exact h4)
        | (rw [if_neg (show ¬ z26.toInt = -1 by omega), h49, h48, h39, h03])
  · -- 16 f
    have c16b : T 4 p.toInt.toNat = 0 := by rw [← h4]; omega
    refine g_iconstI dX5_gap_19 rfl rfl (fun w19 h19 => ?_)
    refine g_toX ?_
    refine g_iret dX5_gap_20 rfl ?_
    exact ⟨_, rfl, rfl, by omega, Or.inl ⟨c16b, h19⟩⟩
