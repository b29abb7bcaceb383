set_option maxHeartbeats 1200000 in
theorem c_tryTurn {Γ : gW} {r : Nat} (hA : g_Week Γ) (hH : WRC Γ r (2 * r + 2)) {T : gTw} {rr : Nat → Int32} (hI : INV T) (hr : RW T rr) {dn n left p : Nat} (hL : LFT T dn left (r + 1)) (hlp : left.testBit p = true) (hnr : n + (r + 1) ≤ 6) {gI lI dI : Int32} (hgI : gI.toInt = (p : Int)) (hlI : lI.toInt = (left : Int)) (hdI : dI.toInt = (n : Int)) {σ : gWk} {M : gM} (hT : tv M 180 = T) (hTt : TBt M 180) (hW : WKc σ M) (h0 : σ.2.2.2 = 0)  : Ct Γ yX4_tryTurn μX4_tryTurn (2 * r + 3) [.ref 240, .int gI, .int lI, .int dI] M (g_qi (fun z M1 => WKc (wkAns (fun T1 σ1 => wkOn r T1 (dn ||| 2 ^ p) (n + 1) σ1) T p (σ.1, σ.2.1, (fun i => if i = n then (p : Int) else σ.2.2.1 i), σ.2.2.2)) M1 ∧ (z.toInt = 0 ∨ z.toInt = 1) ∧ (z.toInt = 1 ↔ (wkAns (fun T1 σ1 => wkOn r T1 (dn ||| 2 ^ p) (n + 1) σ1) T p (σ.1, σ.2.1, (fun i => if i = n then (p : Int) else σ.2.2.1 i), σ.2.2.2)).2.2.2 = 1) ∧ (z.toInt = 0 → tv M1 180 = T) ∧ frV M M1)) := by
  have hO := hI.1
  have hb0 := hO.1
  have hpp := (hL.1 p).mp hlp
  have hp6 : p < 6 := by omega
  obtain ⟨w1, w5, w6, w7⟩ := id hW
  refine g_enter rfl rfl rfl (Nat.le_of_ble_eq_true rfl) ?_
  show G Γ _ _ _ _ 0 [some (.ref 240), some (.int gI), some (.int lI), some (.int dI), none, none, none, none] [] M
  refine g_aload_n0 dX4_tryTurn_0 rfl ?_
  refine g_getr dX4_tryTurn_1 rfl fX4_18 hA.1 rfl ?_
  refine g_iload_n3 dX4_tryTurn_4 rfl ?_
  refine g_iload_n1 dX4_tryTurn_5 rfl ?_
  refine g_iastI dX4_tryTurn_6 rfl hA.2.1 ⟨by omega, by omega⟩ ?_
  rw [show dI.toInt.toNat = n by omega]
  obtain ⟨M2, hM2⟩ : ∃ M2, M2 = g_u M 241 n gI := ⟨_, rfl⟩
  refine g_fwd (M1 := M2) ?_ hM2
  have hT2 : tv M2 180 = T := by rw [← hT]; exact tv_far (fun j a b => by rw [hM2, g_u_ne (by omega)])
  have hTt2 : TBt M2 180 := by rw [hM2]; exact TBt.far hTt (g_u_ne (by decide)) (g_u_ne (by decide)) (g_u_ne (by decide))
  have hB2 : TB M2 180 := TB.of (by rw [hT2]; exact hO) hTt2
  have hF2 : frV M M2 := by rw [hM2]; exact ⟨fun j a b c d => by rw [g_u_ne b], rfl, fun k a b => by rw [g_u_ne (by decide)]⟩
  have hW2 : WKc (σ.1, σ.2.1, (fun i => if i = n then (p : Int) else σ.2.2.1 i), σ.2.2.2) M2 := by
    refine ⟨w1, ?_, ?_, fun i hi => ?_⟩
    · rw [hM2, g_u_ne (by decide)]; exact w5
    · rw [hM2, g_u_ne (by decide)]; exact w6
    · rw [hM2, g_u_eq]
      show _ = if i = n then (p : Int) else σ.2.2.1 i
      split
      · exact hgI
      · exact w7 i hi
  clear hM2
  refine g_aload_n0 dX4_tryTurn_7 rfl ?_
  refine g_getr dX4_tryTurn_8 rfl fX4_12 hA.1 rfl ?_
  refine g_iload_n1 dX4_tryTurn_11 rfl ?_
  refine g_callVi1 dX4_tryTurn_12 rfl vX4_60 hA.2.2.1 rfl (c_takerFor hA.2.2 hB2 (by omega)) (g_rm (by omega)) (Nat.le_of_ble_eq_true rfl) (fun z12 M12 e12 => ?_)
  obtain ⟨hMM, e12⟩ := e12
  subst M12
  rw [show gI.toInt.toNat = p by omega, v_taker hB2 hp6, hT2] at e12
  refine g_istore4 dX4_tryTurn_15 rfl rfl ?_
  refine g_aload_n0 dX4_tryTurn_17 rfl ?_
  refine g_getr dX4_tryTurn_18 rfl fX4_12 hA.1 rfl ?_
  refine g_iload_n1 dX4_tryTurn_21 rfl ?_
  refine g_iconstI dX4_tryTurn_22 rfl rfl (fun w22 h22 => ?_)
  refine g_callVi2 dX4_tryTurn_23 rfl vX4_64 hA.2.2.1 rfl (c_nextFit hA.2.2 hB2 (by omega) (Or.inl h22)) (g_rm (by omega)) (Nat.le_of_ble_eq_true rfl) (fun z23 M23 e23 => ?_)
  obtain ⟨hMM, e23⟩ := e23
  subst M23
  rw [show gI.toInt.toNat = p by omega, h22] at e23
  have hnx := nf_T hB2 hT2 hp6 e23
  clear e23
  refine g_istore5 dX4_tryTurn_26 rfl rfl ?_
  refine g_iconstI dX4_tryTurn_28 rfl rfl (fun w28 h28 => ?_)
  refine g_istore6 dX4_tryTurn_29 rfl rfl ?_
  have hset : ((z23).toInt = -1 ∧ wfold (wkSet (fun T1 σ1 => wkOn r T1 (dn ||| 2 ^ p) (n + 1) σ1) T p) 4096 (σ.1, σ.2.1, (fun i => if i = n then (p : Int) else σ.2.2.1 i), σ.2.2.2) = (σ.1, σ.2.1, (fun i => if i = n then (p : Int) else σ.2.2.1 i), σ.2.2.2)) ∨ ∃ m9 : Nat, (z23).toInt = (m9 : Int) ∧ fitT T p m9 ∧ wfold (wkSet (fun T1 σ1 => wkOn r T1 (dn ||| 2 ^ p) (n + 1) σ1) T p) m9 (σ.1, σ.2.1, (fun i => if i = n then (p : Int) else σ.2.2.1 i), σ.2.2.2) = (σ.1, σ.2.1, (fun i => if i = n then (p : Int) else σ.2.2.1 i), σ.2.2.2) ∧ (w28).toInt ≤ (m9 : Int) := by
    rcases hnx with ⟨z1, z2⟩ | ⟨m2, z1, z2, z3, z4⟩
    · exact Or.inl ⟨z1, wfold_to (a := 0) (by decide) (fun u a b τ => wkSet_no (fun q => z2 u (by omega) q.2))⟩
    · exact Or.inr ⟨m2, z1, z3, wfold_to (a := 0) (by omega) (fun u a b τ => wkSet_no (fun q => z4 u (by omega) b q.2)), by omega⟩
  clear hnx
  have hk9 : 0 ≤ w28.toInt := by clear hset; omega
  exact l_tt hA hH hI hr hL hlp hnr hgI hlI hdI (σ0 := (σ.1, σ.2.1, (fun i => if i = n then (p : Int) else σ.2.2.1 i), σ.2.2.2)) (M0 := M2) e12 (fun z M1 h => ⟨z, rfl, h.1, h.2.1, h.2.2.1, h.2.2.2.1, frV.tr hF2 h.2.2.2.2⟩) _ _ _ _ _ _ rfl hk9 hT2 hTt2 hW2 h0 frV.rf hset
theorem wkPer_fin {on : Nat → gTw → gWk → gWk} {T : gTw} {dn n p : Nat} {σ : gWk} (h : ¬ σ.2.2.2 = 0) : wkPer on T dn n p σ = σ := by rw [wkPer, if_neg (fun q => h q.1)]
set_option maxHeartbeats 1200000 in
theorem l_tr {Γ : gW} {r : Nat} (hA : g_Week Γ) (hH : WRC Γ r (2 * r + 2)) {T : gTw} {rr : Nat → Int32} (hI : INV T) (hr : RW T rr) {dn n left : Nat} (hL : LFT T dn left (r + 1)) (hnr : n + (r + 1) ≤ 6) {lI dI : Int32} (hlI : lI.toInt = (left : Int)) (hdI : dI.toInt = (n : Int)) {σ0 : gWk} {M0 : gM} {Q : Option Value → gM → Prop} (hQ : ∀ (z : Int32) (M1 : gM), WKc (wfold (wkPer (fun dn1 T1 σ1 => wkOn r T1 dn1 (n + 1) σ1) T dn n) (T 0 0).toNat σ0) M1 ∧ (z.toInt = 0 ∨ z.toInt = 1) ∧ (z.toInt = 1 ↔ (wfold (wkPer (fun dn1 T1 σ1 => wkOn r T1 dn1 (n + 1) σ1) T dn n) (T 0 0).toNat σ0).2.2.2 = 1) ∧ (z.toInt = 0 → tv M1 180 = T) ∧ frV M0 M1 → Q (some (.int z)) M1) : ∀ (n9 : Nat) (p : Int32) (σc : gWk) (M : gM), 6 - p.toInt.toNat = n9 → 0 ≤ p.toInt → p.toInt ≤ T 0 0 → tv M 180 = T → TBt M 180 → WKc σc M → ¬ σc.2.2.2 = 1 → frV M0 M → wfold (wkPer (fun dn1 T1 σ1 => wkOn r T1 dn1 (n + 1) σ1) T dn n) p.toInt.toNat σ0 = σc → G Γ μX4_tryRest (g_R (2 * r + 4)) (0, 0) (g_Z Γ Q) 28 [some (.ref 240), some (.int lI), some (.int dI), some (.int p)] [] M := by
  intro n9
  induction n9 using Nat.strongRecOn with
  | ind n9 ih =>
    intro p σc M h9 hp0 hp1 hT hTt hW hn1 hF hwp
    have hO := hI.1
    have hb0 := hO.1
    have hl64 := hL.2.2
    have hbnl : bn lI = left := bn_lit hlI
    have t00 : (M.1 180 0).toInt = T 0 0 := by rw [← hT]; exact (tv0 (by decide)).symm
    refine g_iload_n3 dX4_tryRest_28 rfl ?_
    refine g_aload_n0 dX4_tryRest_29 rfl ?_
    refine g_getr dX4_tryRest_30 rfl fX4_12 hA.1 rfl ?_
    refine g_geti dX4_tryRest_33 rfl fX4_36 hA.2.2.1 rfl ?_
    refine g_icmp_geI (t := 73) dX4_tryRest_36 (by decide) rfl (fun c36 => ?_) (fun c36 => ?_)
    · -- 36 t
      have hend : wfold (wkPer (fun dn1 T1 σ1 => wkOn r T1 dn1 (n + 1) σ1) T dn n) (T 0 0).toNat σ0 = σc := by rw [show (T 0 0).toNat = p.toInt.toNat by omega]; exact hwp
      refine g_iconstI dX4_tryRest_73 rfl rfl (fun w73 h73 => ?_)
      refine g_zretI dX4_tryRest_74 rfl (by omega) ?_
      refine hQ _ _ ⟨by rw [hend]; exact hW, by omega, ?_, fun _ => hT, hF⟩
      rw [hend]
      exact ⟨fun q => by omega, fun q => absurd q hn1⟩
    · -- 36 f
      refine g_aload_n0 dX4_tryRest_39 rfl ?_
      refine g_callVi0 dX4_tryRest_40 rfl vX4_52 hA.1 rfl (c_wkSpent hA hW) (g_rm (by omega)) (Nat.le_of_ble_eq_true rfl) (fun z40 M40 e40 => ?_)
      obtain ⟨hMM, e40, f40⟩ := e40
      subst M40
      refine g_if_neI (t := 73) dX4_tryRest_43 (by decide) rfl (fun c43 => ?_) (fun c43 => ?_)
      · -- 43 t
        have h2 := f40.mp (by omega)
        clear f40 e40
        have hend : wfold (wkPer (fun dn1 T1 σ1 => wkOn r T1 dn1 (n + 1) σ1) T dn n) (T 0 0).toNat σ0 = σc := by
          rw [wfold_tail (i := p.toInt.toNat) _ (by omega) (fun u _ _ => wkPer_fin (by rw [hwp, h2]; decide)), hwp]
        refine g_iconstI dX4_tryRest_73 rfl rfl (fun w73 h73 => ?_)
        refine g_zretI dX4_tryRest_74 rfl (by omega) ?_
        refine hQ _ _ ⟨by rw [hend]; exact hW, by omega, ?_, fun _ => hT, hF⟩
        rw [hend]
        exact ⟨fun q => by omega, fun q => absurd q hn1⟩
      · -- 43 f
        have hn2 : ¬ σc.2.2.2 = 2 := fun q => by have := f40.mpr q; omega
        clear f40 e40
        have h0 : σc.2.2.2 = 0 := by have := hW.1.1.2.2; omega
        refine g_iload_n1 dX4_tryRest_46 rfl ?_
        refine g_iload_n3 dX4_tryRest_47 rfl ?_
        refine g_iushrB dX4_tryRest_48 rfl ⟨by omega, by omega⟩ (fun w48 h48 => ?_)
        refine g_iconstI dX4_tryRest_49 rfl rfl (fun w49 h49 => ?_)
        refine g_iandB dX4_tryRest_50 rfl  (fun w50 h50 => ?_)
        rw [h48, bn_lit (n := 1) h49, hbnl, Nat.and_one_is_mod, Nat.shiftRight_eq_div_pow] at h50
        have htb : left.testBit p.toInt.toNat = decide (left / 2 ^ p.toInt.toNat % 2 = 1) := Nat.testBit_eq_decide_div_mod_eq
        have hmod : left / 2 ^ p.toInt.toNat % 2 < 2 := Nat.mod_lt _ (by decide)
        have e50 : w50.toInt = ((left / 2 ^ p.toInt.toNat % 2 : Nat) : Int) := by rw [i_bn (by omega), h50]
        refine g_iconstI dX4_tryRest_51 rfl rfl (fun w51 h51 => ?_)
        refine g_icmp_neI (t := 67) dX4_tryRest_52 (by decide) rfl (fun c52 => ?_) (fun c52 => ?_)
        · -- 52 t
          have hlp : ¬ left.testBit p.toInt.toNat = true := by rw [htb]; intro q; have := of_decide_eq_true q; omega
          have hstep : wfold (wkPer (fun dn1 T1 σ1 => wkOn r T1 dn1 (n + 1) σ1) T dn n) (p.toInt.toNat + 1) σ0 = σc := by
            show wkPer (fun dn1 T1 σ1 => wkOn r T1 dn1 (n + 1) σ1) T dn n p.toInt.toNat (wfold (wkPer (fun dn1 T1 σ1 => wkOn r T1 dn1 (n + 1) σ1) T dn n) p.toInt.toNat σ0) = σc
            rw [hwp, wkPer, if_neg (fun q => hlp ((hL.1 p.toInt.toNat).mpr ⟨by omega, q.2.1, q.2.2⟩))]
          refine g_iincI3 dX4_tryRest_67 rfl rfl rfl ⟨by omega, by omega⟩ (fun w67 h67 => ?_)
          refine g_goto (t := 28) dX4_tryRest_70 (by decide) ?_
          have e1 : w67.toInt.toNat = p.toInt.toNat + 1 := by omega
          first
            | exact ih _ (show 6 - w67.toInt.toNat < n9 by omega) w67 _ M59 rfl (by omega) (by omega) (a4 (by omega)) (frV.tbt a5 hTt) a1 hno (frV.tr hF a5) (by rw [e1])
            | exact ih _ (show 6 - w67.toInt.toNat < n9 by omega) w67 _ _ rfl (by omega) (by omega) hT hTt hW hn1 hF (by rw [e1]; exact hstep)
        · -- 52 f
          have hlp : left.testBit p.toInt.toNat = true := by rw [htb]; exact decide_eq_true (by omega)
          have hcc := (hL.1 p.toInt.toNat).mp hlp
          have hstep2 : wfold (wkPer (fun dn1 T1 σ1 => wkOn r T1 dn1 (n + 1) σ1) T dn n) (p.toInt.toNat + 1) σ0 = wkAns (fun T1 σ1 => wkOn r T1 (dn ||| 2 ^ p.toInt.toNat) (n + 1) σ1) T p.toInt.toNat (σc.1, σc.2.1, (fun i => if i = n then ((p.toInt.toNat : Nat) : Int) else σc.2.2.1 i), σc.2.2.2) := by
            show wkPer (fun dn1 T1 σ1 => wkOn r T1 dn1 (n + 1) σ1) T dn n p.toInt.toNat (wfold (wkPer (fun dn1 T1 σ1 => wkOn r T1 dn1 (n + 1) σ1) T dn n) p.toInt.toNat σ0) = _
            rw [hwp, wkPer, if_pos ⟨h0, hcc.2.1, hcc.2.2⟩]
          refine g_aload_n0 dX4_tryRest_55 rfl ?_
          refine g_iload_n3 dX4_tryRest_56 rfl ?_
          refine g_iload_n1 dX4_tryRest_57 rfl ?_
          refine g_iload_n2 dX4_tryRest_58 rfl ?_
          refine g_callVi3 dX4_tryRest_59 rfl vX4_56 hA.1 rfl (c_tryTurn hA hH hI hr hL hlp hnr (show p.toInt = ((p.toInt.toNat : Nat) : Int) by omega) hlI hdI hT hTt hW h0) (g_rm (by omega)) (Nat.le_of_ble_eq_true rfl) (fun z59 M59 e59 => ?_)
          obtain ⟨a1, a2, a3, a4, a5⟩ := e59
          rw [← hstep2] at a1 a3
          refine g_if_eqI (t := 67) dX4_tryRest_62 (by decide) rfl (fun c62 => ?_) (fun c62 => ?_)
          · -- 62 t
            have hno : ¬ (wfold (wkPer (fun dn1 T1 σ1 => wkOn r T1 dn1 (n + 1) σ1) T dn n) (p.toInt.toNat + 1) σ0).2.2.2 = 1 := fun q => by have := a3.mpr q; omega
            clear a3
            refine g_iincI3 dX4_tryRest_67 rfl rfl rfl ⟨by omega, by omega⟩ (fun w67 h67 => ?_)
            refine g_goto (t := 28) dX4_tryRest_70 (by decide) ?_
            have e1 : w67.toInt.toNat = p.toInt.toNat + 1 := by omega
            first
              | exact ih _ (show 6 - w67.toInt.toNat < n9 by omega) w67 _ M59 rfl (by omega) (by omega) (a4 (by omega)) (frV.tbt a5 hTt) a1 hno (frV.tr hF a5) (by rw [e1])
              | exact ih _ (show 6 - w67.toInt.toNat < n9 by omega) w67 _ _ rfl (by omega) (by omega) hT hTt hW hn1 hF (by rw [e1]; exact hstep)
          · -- 62 f
            have hy1 := a3.mp (by omega)
            clear a3
            have hend3 : wfold (wkPer (fun dn1 T1 σ1 => wkOn r T1 dn1 (n + 1) σ1) T dn n) (T 0 0).toNat σ0 = wfold (wkPer (fun dn1 T1 σ1 => wkOn r T1 dn1 (n + 1) σ1) T dn n) (p.toInt.toNat + 1) σ0 := wfold_tail _ (by omega) (fun u _ _ => wkPer_fin (by rw [hy1]; decide))
            refine g_iconstI dX4_tryRest_65 rfl rfl (fun w65 h65 => ?_)
            refine g_zretI dX4_tryRest_66 rfl (by omega) ?_
            refine hQ _ _ ⟨by rw [hend3]; exact a1, by omega, ?_, fun q => by omega, frV.tr hF a5⟩
            rw [hend3, hy1]
            constructor <;> intro q <;> omega
set_option maxHeartbeats 1600000 in
theorem c_tryRest {Γ : gW} (hA : g_Week Γ) : ∀ r : Nat, WRC Γ r (2 * r + 2) := by
  intro r
  induction r with
  | zero =>
    intro T rr dn n left lI dI σ M hI hr hT hTt hL hnr hlI hdI hW h0
    have hO := hI.1
    have hb0 := hO.1
    obtain ⟨⟨⟨w1, w2, w3⟩, w4⟩, v5, v6, v7⟩ := id hW
    have hz := hL.zero
    have hle := nbt_le (s := left) 6
    have hl64 := hL.2.2
    refine g_enter rfl rfl rfl (Nat.le_of_ble_eq_true rfl) ?_
    show G Γ _ _ _ _ 0 [some (.ref 240), some (.int lI), some (.int dI), none] [] M
    refine g_aload_n0 dX4_tryRest_0 rfl ?_
    refine g_aload_n0 dX4_tryRest_1 rfl ?_
    refine g_geti dX4_tryRest_2 rfl fX4_29 hA.1 rfl ?_
    refine g_iload_n2 dX4_tryRest_5 rfl ?_
    refine g_mmaxI dX4_tryRest_6 rfl jX4_46 jm_max_s jm_i jm_max_c ⟨by show 1 ≤ _ + 1; omega, by show _ ≤ 40 + 50 * _; simp [Value.category] <;> omega⟩  (fun w6 h6 => ?_)
    refine g_put dX4_tryRest_9 rfl fX4_29 hA.1 rfl rfl rfl ?_
    have hmx : w6.toInt = mx σ.2.1 (n : Int) := by rw [mx]; split at h6 <;> split <;> omega
    obtain ⟨M2, hM2⟩ : ∃ M2, M2 = g_u M 240 4 w6 := ⟨_, rfl⟩
    refine g_fwd (M1 := M2) ?_ hM2
    have hT2 : tv M2 180 = T := by rw [← hT]; exact tv_far (fun j a b => by rw [hM2, g_u_ne (by omega)])
    have hTt2 : TBt M2 180 := by rw [hM2]; exact TBt.far hTt (g_u_ne (by decide)) (g_u_ne (by decide)) (g_u_ne (by decide))
    have hF2 : frV M M2 := by rw [hM2]; exact frV.u (Or.inr rfl)
    have hmr : 0 ≤ mx σ.2.1 (n : Int) ∧ mx σ.2.1 (n : Int) ≤ 6 := by rw [mx]; split <;> omega
    have hW2 : ∀ f : Int, (f = 0 ∨ f = 1) → WKc (σ.1, mx σ.2.1 (n : Int), σ.2.2.1, f) M2 := fun f hf => by
      refine ⟨⟨⟨w1, hmr, by show f = 0 ∨ f = 1 ∨ f = 2; omega⟩, fun q => by have q2 : f = 2 := q; omega⟩, ?_, ?_, fun i hi => ?_⟩
      · rw [hM2, g_u_eq, if_neg (by decide)]
        rw [if_neg (by show ¬ f = 2; omega)]
        rw [if_neg (by omega)] at v5
        exact v5
      · rw [hM2, g_u_eq, if_pos rfl]; exact hmx
      · rw [hM2, g_u_ne (by decide)]; exact v7 i hi
    clear hM2 v5 v6 v7
    refine g_iload_n1 dX4_tryRest_12 rfl ?_
    refine g_if_neI (t := 18) dX4_tryRest_13 (by decide) rfl (fun c13 => absurd c13 (by have := hz.mpr rfl; omega)) (fun c13 => ?_)
    refine g_iconstI dX4_tryRest_16 rfl rfl (fun w16 h16 => ?_)
    refine g_zretI dX4_tryRest_17 rfl (by omega) ?_
    refine ⟨_, rfl, ?_, by omega, ?_, fun q => by omega, hF2⟩
    · exact hW2 1 (Or.inr rfl)
    · show _ ↔ (1 : Int) = 1
      exact ⟨fun _ => rfl, fun _ => h16⟩
  | succ r ih =>
    intro T rr dn n left lI dI σ M hI hr hT hTt hL hnr hlI hdI hW h0
    have hO := hI.1
    have hb0 := hO.1
    obtain ⟨⟨⟨w1, w2, w3⟩, w4⟩, v5, v6, v7⟩ := id hW
    have hz := hL.zero
    have hle := nbt_le (s := left) 6
    have hl64 := hL.2.2
    refine g_enter rfl rfl rfl (Nat.le_of_ble_eq_true rfl) ?_
    show G Γ _ _ _ _ 0 [some (.ref 240), some (.int lI), some (.int dI), none] [] M
    refine g_aload_n0 dX4_tryRest_0 rfl ?_
    refine g_aload_n0 dX4_tryRest_1 rfl ?_
    refine g_geti dX4_tryRest_2 rfl fX4_29 hA.1 rfl ?_
    refine g_iload_n2 dX4_tryRest_5 rfl ?_
    refine g_mmaxI dX4_tryRest_6 rfl jX4_46 jm_max_s jm_i jm_max_c ⟨by show 1 ≤ _ + 1; omega, by show _ ≤ 40 + 50 * _; simp [Value.category] <;> omega⟩  (fun w6 h6 => ?_)
    refine g_put dX4_tryRest_9 rfl fX4_29 hA.1 rfl rfl rfl ?_
    have hmx : w6.toInt = mx σ.2.1 (n : Int) := by rw [mx]; split at h6 <;> split <;> omega
    obtain ⟨M2, hM2⟩ : ∃ M2, M2 = g_u M 240 4 w6 := ⟨_, rfl⟩
    refine g_fwd (M1 := M2) ?_ hM2
    have hT2 : tv M2 180 = T := by rw [← hT]; exact tv_far (fun j a b => by rw [hM2, g_u_ne (by omega)])
    have hTt2 : TBt M2 180 := by rw [hM2]; exact TBt.far hTt (g_u_ne (by decide)) (g_u_ne (by decide)) (g_u_ne (by decide))
    have hF2 : frV M M2 := by rw [hM2]; exact frV.u (Or.inr rfl)
    have hmr : 0 ≤ mx σ.2.1 (n : Int) ∧ mx σ.2.1 (n : Int) ≤ 6 := by rw [mx]; split <;> omega
    have hW2 : ∀ f : Int, (f = 0 ∨ f = 1) → WKc (σ.1, mx σ.2.1 (n : Int), σ.2.2.1, f) M2 := fun f hf => by
      refine ⟨⟨⟨w1, hmr, by show f = 0 ∨ f = 1 ∨ f = 2; omega⟩, fun q => by have q2 : f = 2 := q; omega⟩, ?_, ?_, fun i hi => ?_⟩
      · rw [hM2, g_u_eq, if_neg (by decide)]
        rw [if_neg (by show ¬ f = 2; omega)]
        rw [if_neg (by omega)] at v5
        exact v5
      · rw [hM2, g_u_eq, if_pos rfl]; exact hmx
      · rw [hM2, g_u_ne (by decide)]; exact v7 i hi
    clear hM2 v5 v6 v7
    refine g_iload_n1 dX4_tryRest_12 rfl ?_
    refine g_if_neI (t := 18) dX4_tryRest_13 (by decide) rfl (fun c13 => ?_) (fun c13 => absurd c13 (by intro q; have := hz.mp (by omega); omega))
    refine g_iload_n2 dX4_tryRest_18 rfl ?_
    refine g_bipushI dX4_tryRest_19 rfl rfl (fun w19 h19 => ?_)
    refine g_icmp_ltI (t := 26) dX4_tryRest_21 (by decide) rfl (fun c21 => ?_) (fun c21 => absurd c21 (by omega))
    refine g_iconstI dX4_tryRest_26 rfl rfl (fun w26 h26 => ?_)
    refine g_istore_n3 dX4_tryRest_27 rfl rfl ?_
    refine l_tr hA ih hI hr hL hnr hlI hdI (σ0 := (σ.1, mx σ.2.1 (n : Int), σ.2.2)) (M0 := M2) (fun z M1 h => ⟨z, rfl, h.1, h.2.1, h.2.2.1, h.2.2.2.1, frV.tr hF2 h.2.2.2.2⟩) _ w26 _ _ rfl (by omega) (by omega) hT2 hTt2 ?_ ?_ frV.rf (by rw [h26])
    · have := hW2 0 (Or.inl rfl)
      rw [← h0] at this
      exact this
    · show ¬ σ.2.2.2 = 1
      omega
