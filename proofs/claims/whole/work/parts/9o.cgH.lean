set_option maxHeartbeats 1200000 in
theorem l_sb {Γ : gW} (hA : g_Get Γ) {T0 T : gTw} (hI : INV T) (hX : TX T0 T) {k : Nat} {kI : Int32} (hkI : kI.toInt = (k : Int)) {b : Int} {p : Nat} {pI : Int32} (hpI : pI.toInt = (p : Int)) (hp : (p : Int) < T 0 0) {σ0 : gGt} {M0 : gM} {Q : Option Value → gM → Prop} (hQ : ∀ M : gM, GH T0 T k (gfold (gSet T p b) 4096 σ0) M → frO M0 M → Q none M) : ∀ (n9 : Nat) (set kc : Int32) (σc : gGt) (M : gM), 4096 - set.toInt.toNat = n9 → 0 ≤ kc.toInt → GH T0 T k σc M → frO M0 M → (((set).toInt = -1 ∧ gfold (gSet T p b) 4096 σ0 = σc) ∨ ∃ m9 : Nat, (set).toInt = (m9 : Int) ∧ fitT T p m9 ∧ gfold (gSet T p b) m9 σ0 = σc ∧ (kc).toInt ≤ (m9 : Int)) → G Γ μX1_spreadBySets (g_R 3) (0, 0) (g_Z Γ Q) 13 [some (.ref 250), some (.int kI), some (.int pI), some (.int set), some (.int kc)] [] M := by
  intro n9
  induction n9 using Nat.strongRecOn with
  | ind n9 ih =>
    intro set kc σc M h9 hk0 hH hF hS
    obtain ⟨hG, hk1, hk2, hT, hTt⟩ := id hH
    have hO := hI.1
    have hb0 := hO.1
    have hp6 : p < 6 := by omega
    have h6 : hasT T p ≤ 4095 := by have := (hO.2.2.2.2.2.2.1 p hp6).2.2.2.2.2.1; unfold hasT; omega
    obtain ⟨g1, g2, g3, g4, g5, -⟩ := id hG
    refine g_iload4 dX1_spreadBySets_13 rfl ?_
    refine g_sipushI dX1_spreadBySets_15 rfl rfl (fun w15 h15 => ?_)
    refine g_icmp_geI (t := 56) dX1_spreadBySets_18 (by decide) rfl (fun c18 => ?_) (fun c18 => ?_)
    · -- 18 t
      have hend : gfold (gSet T p b) 4096 σ0 = σc := by
        rcases hS with ⟨-, q⟩ | ⟨m, hm, hfit, -, hkm⟩
        · exact q
        · have := sub_le hfit.2.1
          omega
      refine g_vret dX1_spreadBySets_56 rfl ?_
      exact hQ M (by rw [hend]; exact hH) hF
    · -- 18 f
      refine g_iload_n3 dX1_spreadBySets_21 rfl ?_
      refine g_iconstI dX1_spreadBySets_22 rfl rfl (fun w22 h22 => ?_)
      refine g_icmp_eqI (t := 56) dX1_spreadBySets_23 (by decide) rfl (fun c23 => ?_) (fun c23 => ?_)
      · -- 23 t
        have hend : gfold (gSet T p b) 4096 σ0 = σc := by
          rcases hS with ⟨-, q⟩ | ⟨m, hm, hfit, -, hkm⟩
          · exact q
          · omega
        refine g_vret dX1_spreadBySets_56 rfl ?_
        exact hQ M (by rw [hend]; exact hH) hF
      · -- 23 f
        obtain ⟨m, hm, hfit, hwm, hkm⟩ : ∃ m : Nat, set.toInt = (m : Int) ∧ fitT T p m ∧ gfold (gSet T p b) m σ0 = σc ∧ kc.toInt ≤ (m : Int) := by
          rcases hS with ⟨q, -⟩ | h
          · omega
          · exact h
        clear hS
        have hmh := sub_le hfit.2.1
        refine g_aload_n0 dX1_spreadBySets_26 rfl ?_
        refine g_geti dX1_spreadBySets_27 rfl fX1_33 hA.1 rfl ?_
        refine g_if_neI (t := 56) dX1_spreadBySets_30 (by decide) rfl (fun c30 => ?_) (fun c30 => ?_)
        · -- 30 t
          have hend : gfold (gSet T p b) 4096 σ0 = σc := by
            have hge : gEnd σc := g4.elim (fun h => by omega) id
            rw [gfold_tail (i := m) 4096 (by omega) (fun v _ _ => by rw [hwm]; exact gSet_end hge), hwm]
          refine g_vret dX1_spreadBySets_56 rfl ?_
          exact hQ M (by rw [hend]; exact hH) hF
        · -- 30 f
          refine g_aload_n0 dX1_spreadBySets_33 rfl ?_
          refine g_iload_n1 dX1_spreadBySets_34 rfl ?_
          refine g_iload_n2 dX1_spreadBySets_35 rfl ?_
          refine g_iload_n3 dX1_spreadBySets_36 rfl ?_
          refine g_callVv3 dX1_spreadBySets_37 rfl vX1_76 hA.1 rfl (c_spreadSet (b := b) hA hI hX hkI hpI hp hm hfit hH) (g_rm (by omega)) (Nat.le_of_ble_eq_true rfl) (fun M37 e37 => ?_)
          obtain ⟨hH5, hF5⟩ := e37
          have hw1 : gfold (gSet T p b) (m + 1) σ0 = gfold (gTak T p m b) (T 0 0).toNat σc := by
            show gSet T p b m (gfold (gSet T p b) m σ0) = _
            rw [hwm, gSet, if_pos hfit]
          rw [← hw1] at hH5
          have hT5 := hH5.2.2.2.1
          have hB5 : TB M37 200 := TB.of (by rw [hT5]; exact hO) hH5.2.2.2.2
          refine g_aload_n0 dX1_spreadBySets_40 rfl ?_
          refine g_getr dX1_spreadBySets_41 rfl fX1_25 hA.1 rfl ?_
          refine g_iload_n2 dX1_spreadBySets_44 rfl ?_
          refine g_iload_n3 dX1_spreadBySets_45 rfl ?_
          refine g_callVi2 dX1_spreadBySets_46 rfl vX1_72 hA.2.2.2.2.1 rfl (c_nextFit hA.2.2.2.2 hB5 (by omega) (Or.inr ⟨by omega, by rw [show bn set = m from bn_lit hm, show pI.toInt.toNat = p by omega, v_has hB5 hp6, hT5]; exact hfit.2.1⟩)) (g_rm (by omega)) (Nat.le_of_ble_eq_true rfl) (fun z46 M46 e46 => ?_)
          obtain ⟨hMM, e46⟩ := e46
          subst M46
          rw [show pI.toInt.toNat = p by omega, hm] at e46
          have hnx := nf_T hB5 hT5 hp6 e46
          clear e46
          refine g_istore_n3 dX1_spreadBySets_49 rfl rfl ?_
          refine g_iincI4 dX1_spreadBySets_50 rfl rfl rfl ⟨by omega, by omega⟩ (fun w50 h50 => ?_)
          refine g_goto (t := 13) dX1_spreadBySets_53 (by decide) ?_
          have hnew : (((z46).toInt = -1 ∧ gfold (gSet T p b) 4096 σ0 = gfold (gSet T p b) (m + 1) σ0) ∨ ∃ m9 : Nat, (z46).toInt = (m9 : Int) ∧ fitT T p m9 ∧ gfold (gSet T p b) m9 σ0 = gfold (gSet T p b) (m + 1) σ0 ∧ (w50).toInt ≤ (m9 : Int)) := by
            rcases hnx with ⟨z1, z2⟩ | ⟨m2, z1, z2, z3, z4⟩
            · exact Or.inl ⟨z1, gfold_tail (i := m + 1) 4096 (by omega) (fun u a _ => by rw [gSet, if_neg (z2 u (by omega))])⟩
            · exact Or.inr ⟨m2, z1, z3, gfold_tail (i := m + 1) m2 (by omega) (fun u a c => by rw [gSet, if_neg (z4 u (by omega) c)]), by omega⟩
          have hdec : 4096 - z46.toInt.toNat < n9 ∨ z46.toInt = -1 := by
            clear hnew
            rcases hnx with ⟨z1, -⟩ | ⟨m2, z1, z2, -, -⟩
            · exact Or.inr z1
            · exact Or.inl (by omega)
          clear hnx
          by_cases hz1 : z46.toInt = -1
          · have hend2 : gfold (gSet T p b) 4096 σ0 = gfold (gSet T p b) (m + 1) σ0 := by
              rcases hnew with ⟨-, q⟩ | ⟨m2, q, -⟩
              · exact q
              · omega
            clear hnew hdec
            refine g_iload4 dX1_spreadBySets_13 rfl ?_
            refine g_sipushI dX1_spreadBySets_15 rfl rfl (fun w15 h15 => ?_)
            refine g_icmp_geI (t := 56) dX1_spreadBySets_18 (by decide) rfl (fun c18 => ?_) (fun c18 => ?_)
            · -- 18 t
              refine g_vret dX1_spreadBySets_56 rfl ?_
              exact hQ _ (by rw [hend2]; exact hH5) (frO.tr hF hF5)
            · -- 18 f
              refine g_iload_n3 dX1_spreadBySets_21 rfl ?_
              refine g_iconstI dX1_spreadBySets_22 rfl rfl (fun w22 h22 => ?_)
              refine g_icmp_eqI (t := 56) dX1_spreadBySets_23 (by decide) rfl (fun c23 => ?_) (fun c23 => absurd c23 (by omega))
              refine g_vret dX1_spreadBySets_56 rfl ?_
              exact hQ _ (by rw [hend2]; exact hH5) (frO.tr hF hF5)
          · have hk9 : 0 ≤ w50.toInt := by clear hnew hdec; omega
            exact ih _ (hdec.resolve_right hz1) z46 w50 _ M37 rfl hk9 hH5 (frO.tr hF hF5) hnew
set_option maxHeartbeats 1200000 in
theorem c_spreadBySets {Γ : gW} (hA : g_Get Γ) {T0 T : gTw} (hI : INV T) (hX : TX T0 T) {k : Nat} {kI : Int32} (hkI : kI.toInt = (k : Int)) {b : Int} {p : Nat} {pI : Int32} (hpI : pI.toInt = (p : Int)) (hp : (p : Int) < T 0 0) {σ : gGt} {M : gM} (hH : GH T0 T k σ M) : Ct Γ yX1_spreadBySets μX1_spreadBySets 3 [.ref 250, .int kI, .int pI] M (g_qv (fun M1 => GH T0 T k (gfold (gSet T p b) 4096 σ) M1 ∧ frO M M1)) := by
  have hO := hI.1
  have hb0 := hO.1
  have hp6 : p < 6 := by omega
  obtain ⟨hG, hk1, hk2, hT, hTt⟩ := id hH
  have hB : TB M 200 := TB.of (by rw [hT]; exact hO) hTt
  refine g_enter rfl rfl rfl (Nat.le_of_ble_eq_true rfl) ?_
  show G Γ _ _ _ _ 0 [some (.ref 250), some (.int kI), some (.int pI), none, none] [] M
  refine g_aload_n0 dX1_spreadBySets_0 rfl ?_
  refine g_getr dX1_spreadBySets_1 rfl fX1_25 hA.1 rfl ?_
  refine g_iload_n2 dX1_spreadBySets_4 rfl ?_
  refine g_iconstI dX1_spreadBySets_5 rfl rfl (fun w5 h5 => ?_)
  refine g_callVi2 dX1_spreadBySets_6 rfl vX1_72 hA.2.2.2.2.1 rfl (c_nextFit hA.2.2.2.2 hB (by omega) (Or.inl h5)) (g_rm (by omega)) (Nat.le_of_ble_eq_true rfl) (fun z6 M6 e6 => ?_)
  obtain ⟨hMM, e6⟩ := e6
  subst M6
  rw [show pI.toInt.toNat = p by omega, h5] at e6
  have hnx := nf_T hB hT hp6 e6
  clear e6
  refine g_istore_n3 dX1_spreadBySets_9 rfl rfl ?_
  refine g_iconstI dX1_spreadBySets_10 rfl rfl (fun w10 h10 => ?_)
  refine g_istore4 dX1_spreadBySets_11 rfl rfl ?_
  have hset : ((z6).toInt = -1 ∧ gfold (gSet T p b) 4096 σ = σ) ∨ ∃ m9 : Nat, (z6).toInt = (m9 : Int) ∧ fitT T p m9 ∧ gfold (gSet T p b) m9 σ = σ ∧ (w10).toInt ≤ (m9 : Int) := by
    rcases hnx with ⟨z1, z2⟩ | ⟨m2, z1, z2, z3, z4⟩
    · exact Or.inl ⟨z1, gfold_tail (i := 0) 4096 (by omega) (fun u a _ => by rw [gSet, if_neg (z2 u (by omega))])⟩
    · exact Or.inr ⟨m2, z1, z3, gfold_tail (i := 0) m2 (by omega) (fun u a c => by rw [gSet, if_neg (z4 u (by omega) c)]), by omega⟩
  clear hnx
  have hk9 : 0 ≤ w10.toInt := by clear hset; omega
  exact l_sb hA hI hX hkI hpI hp (fun M1 a c => ⟨rfl, a, c⟩) _ _ _ _ _ rfl hk9 hH frO.rf hset
set_option maxHeartbeats 1200000 in
theorem l_sp {Γ : gW} (hA : g_Get Γ) {T0 T : gTw} (hI : INV T) (hX : TX T0 T) {k : Nat} {kI : Int32} (hkI : kI.toInt = (k : Int)) {b : Int} {who : Nat} {wI : Int32} (hwI : wI.toInt = (who : Int)) {σ0 : gGt} {M0 : gM} {Q : Option Value → gM → Prop} (hQ : ∀ M : gM, GH T0 T k (gfold (gPer T who b) (T 0 0).toNat σ0) M → frO M0 M → Q none M) : ∀ (n9 : Nat) (j : Int32) (σc : gGt) (M : gM), 6 - j.toInt.toNat = n9 → 0 ≤ j.toInt → j.toInt ≤ T 0 0 → GH T0 T k σc M → frO M0 M → gfold (gPer T who b) j.toInt.toNat σ0 = σc → G Γ μX1_spread (g_R 5) (0, 0) (g_Z Γ Q) 2 [some (.ref 250), some (.int kI), some (.int wI), some (.int j)] [] M := by
  intro n9
  induction n9 using Nat.strongRecOn with
  | ind n9 ih =>
    intro j σc M h9 hj0 hj1 hH hF hw
    obtain ⟨hG, hk1, hk2, hT, hTt⟩ := id hH
    have hO := hI.1
    have hb0 := hO.1
    have hB : TB M 200 := TB.of (by rw [hT]; exact hO) hTt
    obtain ⟨g1, g2, g3, g4, g5, -⟩ := id hG
    have t00 : (M.1 200 0).toInt = T 0 0 := by rw [← hT]; exact (tv0 (by decide)).symm
    refine g_iload_n3 dX1_spread_2 rfl ?_
    refine g_aload_n0 dX1_spread_3 rfl ?_
    refine g_getr dX1_spread_4 rfl fX1_25 hA.1 rfl ?_
    refine g_geti dX1_spread_7 rfl fX1_62 hA.2.2.2.2.1 rfl ?_
    refine g_icmp_geI (t := 60) dX1_spread_10 (by decide) rfl (fun c10 => ?_) (fun c10 => ?_)
    · -- 10 t
      have hend : gfold (gPer T who b) (T 0 0).toNat σ0 = σc := by rw [show (T 0 0).toNat = j.toInt.toNat by omega]; exact hw
      refine g_vret dX1_spread_60 rfl ?_
      exact hQ M (by rw [hend]; exact hH) hF
    · -- 10 f
      refine g_aload_n0 dX1_spread_13 rfl ?_
      refine g_geti dX1_spread_14 rfl fX1_33 hA.1 rfl ?_
      refine g_if_neI (t := 60) dX1_spread_17 (by decide) rfl (fun c17 => ?_) (fun c17 => ?_)
      · -- 17 t
        have hend : gfold (gPer T who b) (T 0 0).toNat σ0 = σc := by
          have hge : gEnd σc := g4.elim (fun h => by omega) id
          rw [gfold_tail (i := j.toInt.toNat) _ (by omega) (fun v _ _ => by rw [hw]; exact gPer_end hge), hw]
        refine g_vret dX1_spread_60 rfl ?_
        exact hQ M (by rw [hend]; exact hH) hF
      · -- 17 f
        have h00 : σc.2.2.2 = 0 := by omega
        refine g_iload_n3 dX1_spread_20 rfl ?_
        refine g_iload_n2 dX1_spread_21 rfl ?_
        refine g_icmp_neI (t := 34) dX1_spread_22 (by decide) rfl (fun c22 => ?_) (fun c22 => ?_)
        · -- 22 t
          have hjw : ¬ j.toInt.toNat = who := by omega
          refine g_aload_n0 dX1_spread_34 rfl ?_
          refine g_getr dX1_spread_35 rfl fX1_25 hA.1 rfl ?_
          refine g_iload_n3 dX1_spread_38 rfl ?_
          refine g_callVi1 dX1_spread_39 rfl vX1_68 hA.2.2.2.2.1 rfl (c_giveByChoice hA.2.2.2.2 hB (by omega)) (g_rm (by omega)) (Nat.le_of_ble_eq_true rfl) (fun z39 M39 e39 => ?_)
          refine g_if_eqI (t := 54) dX1_spread_42 (by decide) rfl (fun c42 => ?_) (fun c42 => ?_)
          · -- 42 t
            obtain ⟨hM39, hc⟩ : M39 = M ∧ chosen M 200 j.toInt.toNat (-1) := by
              rcases e39 with ⟨a, b2, c⟩ | ⟨a, -⟩
              · exact ⟨b2, c⟩
              · omega
            clear e39
            subst M39
            have hcT : chosenT T j.toInt.toNat (-1) := by rw [← hT]; exact (v_chosen hB (by omega)).mp hc
            have hz := chF_eq hcT
            refine g_iincI3 dX1_spread_54 rfl rfl rfl ⟨by omega, by omega⟩ (fun w54 h54 => ?_)
            refine g_goto (t := 2) dX1_spread_57 (by decide) ?_
            have e1 : w54.toInt.toNat = j.toInt.toNat + 1 := by omega
            first
              | (have hz2 := e28
                 refine ih _ (show 6 - w54.toInt.toNat < n9 by omega) w54 _ M28 rfl (by omega) (by omega) hz2.1 (frO.tr hF hz2.2) ?_
                 rw [e1]
                 show gPer T who b j.toInt.toNat (gfold _ j.toInt.toNat σ0) = _
                 rw [hw, gPer, if_pos hjw])
              | (have hz2 := hkp
                 have hF8 : frO M M51 := frO.tr hF7 (frO.tr e46.2.o e51.1.o)
                 refine ih _ (show 6 - w54.toInt.toNat < n9 by omega) w54 _ M51 rfl (by omega) (by omega) ⟨GC.q e46.1 e51.1, hkp.1, hkp.2, e51.2, frO.tbt hF8 hTt⟩ (frO.tr hF hF8) ?_
                 rw [e1]
                 show gPer T who b j.toInt.toNat (gfold _ j.toInt.toNat σ0) = _
                 rw [hw, gPer, if_neg hjw, hz, if_neg (by omega)]; rfl)
              | (refine ih _ (show 6 - w54.toInt.toNat < n9 by omega) w54 _ M rfl (by omega) (by omega) hH hF ?_
                 rw [e1]
                 show gPer T who b j.toInt.toNat (gfold _ j.toInt.toNat σ0) = _
                 rw [hw, gPer, if_neg hjw, if_pos hz])
          · -- 42 f
            obtain ⟨m, hc, s9, sd9, v9, k9, q1, q2, q3, q4, hM39⟩ : ∃ m : Nat, chosen M 200 j.toInt.toNat (m : Int) ∧ gaveM M M39 200 j.toInt.toNat m := by
              rcases e39 with ⟨a, -⟩ | ⟨a, h⟩
              · omega
              · exact h
            clear e39
            have hc2 : chosenT T j.toInt.toNat (m : Int) := by rw [← hT]; exact (v_chosen hB (by omega)).mp hc
            have hz := chF_eq hc2
            obtain ⟨hcan, htk0, htk1⟩ := chosenT_can hO (by omega) hc2 hI.2.2
            have hbp := hO.2.2.2.2.2.2.1 j.toInt.toNat (by omega)
            rw [v_sand (by omega), hT] at q2 q3
            rw [v_taker hB (by omega), hT] at q4 hM39
            have hsub := sub_le hcan.2.2.2.1
            have hh6 : hasT T j.toInt.toNat ≤ 4095 := by unfold hasT; omega
            have hbs : bn s9 = m := bn_lit q1
            have e3 : (M.1 (200 + 3) j.toInt.toNat).toInt = T 3 j.toInt.toNat := by rw [← hT]; exact (tvp (f := 3) (by decide) (by omega)).symm
            have hsr : 0 ≤ sandT T j.toInt.toNat m ∧ sandT T j.toInt.toNat m ≤ T 3 j.toInt.toNat := ⟨hcan.2.2.2.2.1, hcan.2.2.2.2.2⟩
            have hT7 : tv M39 200 = choT T j.toInt.toNat m := by
              rw [hM39, v_gift hB (by omega) (by omega) hcan.2.2.1 (by omega) (by omega) (by rw [hbs, q3, q2]), hT, hbs, q2]; rfl
            have hG7 : GC T0 σc M39 := by rw [hM39]; exact GC.gift hG
            have hF7 : frO M M39 := by rw [hM39]; exact frO.gift
            have e00 := hX.o 0
            have hI7 : INV (choT T j.toInt.toNat m) := INV.gift hI hcan
            have hX7 : TX T0 (choT T j.toInt.toNat m) := TX.gift hX (by omega) (by omega)
            clear hM39
            refine g_aload_n0 dX1_spread_45 rfl ?_
            refine g_callVv0 dX1_spread_46 rfl vX1_47 hA.1 rfl (c_noteState (b := b) hA hG7 h00 hI7 hX7 hT7) (g_rm (by omega)) (Nat.le_of_ble_eq_true rfl) (fun M46 e46 => ?_)
            have hkp := GH.kp (gcome_kp (T := choT T j.toInt.toNat m) (b := b) (σ := σc)) hk1 hk2
            have hrow : ∀ q, q < 6 → ln (M46.2 251 (6 * k + q)) = PKr T q := fun q hq => by
              have := (e46.1.2.2.2.2.1 k hkp.1).2.2 q hq
              rw [hkp.2] at this
              exact this
            refine g_aload_n0 dX1_spread_49 rfl ?_
            refine g_iload_n1 dX1_spread_50 rfl ?_
            refine g_callVv1 dX1_spread_51 rfl vX1_50 hA.1 rfl (c_load (k := k) (Tk := T) (T := choT T j.toInt.toNat m) hA hO (TX.two hX7 hX) hkI (by omega) (by rw [← hT7]; exact tv_far (fun i a c => e46.2.1 i (by omega) (by omega))) hrow) (g_rm (by omega)) (Nat.le_of_ble_eq_true rfl) (fun M51 e51 => ?_)
            refine g_iincI3 dX1_spread_54 rfl rfl rfl ⟨by omega, by omega⟩ (fun w54 h54 => ?_)
            refine g_goto (t := 2) dX1_spread_57 (by decide) ?_
            have e1 : w54.toInt.toNat = j.toInt.toNat + 1 := by omega
            first
              | (have hz2 := e28
                 refine ih _ (show 6 - w54.toInt.toNat < n9 by omega) w54 _ M28 rfl (by omega) (by omega) hz2.1 (frO.tr hF hz2.2) ?_
                 rw [e1]
                 show gPer T who b j.toInt.toNat (gfold _ j.toInt.toNat σ0) = _
                 rw [hw, gPer, if_pos hjw])
              | (have hz2 := hkp
                 have hF8 : frO M M51 := frO.tr hF7 (frO.tr e46.2.o e51.1.o)
                 refine ih _ (show 6 - w54.toInt.toNat < n9 by omega) w54 _ M51 rfl (by omega) (by omega) ⟨GC.q e46.1 e51.1, hkp.1, hkp.2, e51.2, frO.tbt hF8 hTt⟩ (frO.tr hF hF8) ?_
                 rw [e1]
                 show gPer T who b j.toInt.toNat (gfold _ j.toInt.toNat σ0) = _
                 rw [hw, gPer, if_neg hjw, hz, if_neg (by omega)]; rfl)
              | (refine ih _ (show 6 - w54.toInt.toNat < n9 by omega) w54 _ M rfl (by omega) (by omega) hH hF ?_
                 rw [e1]
                 show gPer T who b j.toInt.toNat (gfold _ j.toInt.toNat σ0) = _
                 rw [hw, gPer, if_neg hjw, if_pos hz])
        · -- 22 f
          have hjw : j.toInt.toNat = who := by omega
          refine g_aload_n0 dX1_spread_25 rfl ?_
          refine g_iload_n1 dX1_spread_26 rfl ?_
          refine g_iload_n3 dX1_spread_27 rfl ?_
          refine g_callVv2 dX1_spread_28 rfl vX1_65 hA.1 rfl (c_spreadBySets (b := b) hA hI hX hkI (show j.toInt = ((j.toInt.toNat : Nat) : Int) by omega) (by omega) hH) (g_rm (by omega)) (Nat.le_of_ble_eq_true rfl) (fun M28 e28 => ?_)
          refine g_goto (t := 54) dX1_spread_31 (by decide) ?_
          refine g_iincI3 dX1_spread_54 rfl rfl rfl ⟨by omega, by omega⟩ (fun w54 h54 => ?_)
          refine g_goto (t := 2) dX1_spread_57 (by decide) ?_
          have e1 : w54.toInt.toNat = j.toInt.toNat + 1 := by omega
          first
            | (have hz2 := e28
               refine ih _ (show 6 - w54.toInt.toNat < n9 by omega) w54 _ M28 rfl (by omega) (by omega) hz2.1 (frO.tr hF hz2.2) ?_
               rw [e1]
               show gPer T who b j.toInt.toNat (gfold _ j.toInt.toNat σ0) = _
               rw [hw, gPer, if_pos hjw])
            | (have hz2 := hkp
               have hF8 : frO M M51 := frO.tr hF7 (frO.tr e46.2.o e51.1.o)
               refine ih _ (show 6 - w54.toInt.toNat < n9 by omega) w54 _ M51 rfl (by omega) (by omega) ⟨GC.q e46.1 e51.1, hkp.1, hkp.2, e51.2, frO.tbt hF8 hTt⟩ (frO.tr hF hF8) ?_
               rw [e1]
               show gPer T who b j.toInt.toNat (gfold _ j.toInt.toNat σ0) = _
               rw [hw, gPer, if_neg hjw, hz, if_neg (by omega)]; rfl)
            | (refine ih _ (show 6 - w54.toInt.toNat < n9 by omega) w54 _ M rfl (by omega) (by omega) hH hF ?_
               rw [e1]
               show gPer T who b j.toInt.toNat (gfold _ j.toInt.toNat σ0) = _
               rw [hw, gPer, if_neg hjw, if_pos hz])
set_option maxHeartbeats 1200000 in
theorem c_spread {Γ : gW} (hA : g_Get Γ) {T0 T : gTw} (hI : INV T) (hX : TX T0 T) {k : Nat} {kI : Int32} (hkI : kI.toInt = (k : Int)) {b : Int} {who : Nat} {wI : Int32} (hwI : wI.toInt = (who : Int)) {σ : gGt} {M : gM} (hH : GH T0 T k σ M) : Ct Γ yX1_spread μX1_spread 5 [.ref 250, .int kI, .int wI] M (g_qv (fun M1 => GH T0 T k (gfold (gPer T who b) (T 0 0).toNat σ) M1 ∧ frO M M1)) := by
  have hb0 := hI.1.1
  refine g_enter rfl rfl rfl (Nat.le_of_ble_eq_true rfl) ?_
  show G Γ _ _ _ _ 0 [some (.ref 250), some (.int kI), some (.int wI), none] [] M
  refine g_iconstI dX1_spread_0 rfl rfl (fun w0 h0 => ?_)
  refine g_istore_n3 dX1_spread_1 rfl rfl ?_
  exact l_sp hA hI hX hkI hwI (fun M1 a c => ⟨rfl, a, c⟩) _ _ _ _ rfl (by omega) (by omega) hH frO.rf (by rw [h0]; rfl)
