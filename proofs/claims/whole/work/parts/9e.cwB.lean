def WRC (Γ : gW) (r d : Nat) : Prop := ∀ (T : gTw) (rr : Nat → Int32) (dn n left : Nat) (lI dI : Int32) (σ : gWk) (M : gM), INV T → RW T rr → tv M 180 = T → TBt M 180 → LFT T dn left r → n + r ≤ 6 → lI.toInt = (left : Int) → dI.toInt = (n : Int) → WKc σ M → σ.2.2.2 = 0 → Ct Γ yX4_tryRest μX4_tryRest d [.ref 240, .int lI, .int dI] M (g_qi (fun z M1 => WKc (wkOn r T dn n σ) M1 ∧ (z.toInt = 0 ∨ z.toInt = 1) ∧ (z.toInt = 1 ↔ (wkOn r T dn n σ).2.2.2 = 1) ∧ (z.toInt = 0 → tv M1 180 = T) ∧ frV M M1))
theorem WKp.add {σ : gWk} (h : WKp σ) (h0 : σ.2.2.2 = 0) (h2 : ¬ σ.1 = 20000) : WKp (σ.1 + 1, σ.2) := by
  obtain ⟨⟨a, b, c⟩, d⟩ := h
  exact ⟨⟨⟨by show 0 ≤ σ.1 + 1; omega, by show σ.1 + 1 ≤ 20000; omega⟩, b, c⟩, fun q => by rw [show (σ.1 + 1, σ.2).2.2.2 = σ.2.2.2 from rfl, h0] at q; omega⟩
theorem WKp.sp {σ : gWk} (h : WKp σ) (h2 : σ.1 = 20000) : WKp (σ.1, σ.2.1, σ.2.2.1, 2) := by
  obtain ⟨⟨a, b, c⟩, d⟩ := h
  exact ⟨⟨a, b, Or.inr (Or.inr rfl)⟩, fun _ => h2⟩
theorem TBt.far {M M' : gM} {t : Nat} (h : TBt M t) (h7 : M'.1 (t + 7) = M.1 (t + 7)) (h9 : M'.1 (t + 9) = M.1 (t + 9)) (h10 : M'.1 (t + 10) = M.1 (t + 10)) : TBt M' t := by
  intro s hs
  have := h s hs
  unfold wtF at this ⊢
  rw [h7, h9, h10]; exact this
set_option maxHeartbeats 1200000 in
theorem l_tt {Γ : gW} {r : Nat} (hA : g_Week Γ) (hH : WRC Γ r (2 * r + 2)) {T : gTw} {rr : Nat → Int32} (hI : INV T) (hr : RW T rr) {dn n left p : Nat} (hL : LFT T dn left (r + 1)) (hlp : left.testBit p = true) (hnr : n + (r + 1) ≤ 6) {gI lI dI : Int32} (hgI : gI.toInt = (p : Int)) (hlI : lI.toInt = (left : Int)) (hdI : dI.toInt = (n : Int)) {σ0 : gWk} {M0 : gM} {tk : Int32} (htk : tk.toInt = takerT T p) {Q : Option Value → gM → Prop} (hQ : ∀ (z : Int32) (M1 : gM), WKc (wfold (wkSet (fun T1 σ1 => wkOn r T1 (dn ||| 2 ^ p) (n + 1) σ1) T p) 4096 σ0) M1 ∧ (z.toInt = 0 ∨ z.toInt = 1) ∧ (z.toInt = 1 ↔ (wfold (wkSet (fun T1 σ1 => wkOn r T1 (dn ||| 2 ^ p) (n + 1) σ1) T p) 4096 σ0).2.2.2 = 1) ∧ (z.toInt = 0 → tv M1 180 = T) ∧ frV M0 M1 → Q (some (.int z)) M1) : ∀ (n9 : Nat) (set k : Int32) (v7 : Option Value) (σc : gWk) (M : gM), 4096 - set.toInt.toNat = n9 → 0 ≤ k.toInt → tv M 180 = T → TBt M 180 → WKc σc M → σc.2.2.2 = 0 → frV M0 M → (((set).toInt = -1 ∧ wfold (wkSet (fun T1 σ1 => wkOn r T1 (dn ||| 2 ^ p) (n + 1) σ1) T p) 4096 σ0 = σc) ∨ ∃ m9 : Nat, (set).toInt = (m9 : Int) ∧ fitT T p m9 ∧ wfold (wkSet (fun T1 σ1 => wkOn r T1 (dn ||| 2 ^ p) (n + 1) σ1) T p) m9 σ0 = σc ∧ (k).toInt ≤ (m9 : Int)) → G Γ μX4_tryTurn (g_R (2 * r + 3)) (0, 0) (g_Z Γ Q) 31 [some (.ref 240), some (.int gI), some (.int lI), some (.int dI), some (.int tk), some (.int set), some (.int k), v7] [] M := by
  intro n9
  induction n9 using Nat.strongRecOn with
  | ind n9 ih =>
    intro set k v7 σc M h9 hk0 hT hTt hW h0 hF hS
    have hO := hI.1
    have hb0 := hO.1
    have hb1 := hO.2.1
    have hpp := (hL.1 p).mp hlp
    have hp6 : p < 6 := by omega
    have hB : TB M 180 := TB.of (by rw [hT]; exact hO) hTt
    obtain ⟨⟨⟨w1, w2, w3⟩, w4⟩, w5, w6, w7⟩ := id hW
    rw [if_neg (by omega)] at w5
    have hbp := hO.2.2.2.2.2.2.1 p hp6
    refine g_iload6 dX4_tryTurn_31 rfl ?_
    refine g_sipushI dX4_tryTurn_33 rfl rfl (fun w33 h33 => ?_)
    refine g_icmp_geI (t := 150) dX4_tryTurn_36 (by decide) rfl (fun c36 => ?_) (fun c36 => ?_)
    · -- 36 t
      have hend : wfold (wkSet (fun T1 σ1 => wkOn r T1 (dn ||| 2 ^ p) (n + 1) σ1) T p) 4096 σ0 = σc := by
        rcases hS with ⟨-, q⟩ | ⟨m, hm, hfit, -, hkm⟩
        · exact q
        · have := sub_le hfit.2.1
          have h6 : hasT T p ≤ 4095 := by rw [hasT]; omega
          omega
      refine g_iconstI dX4_tryTurn_150 rfl rfl (fun w150 h150 => ?_)
      refine g_zretI dX4_tryTurn_151 rfl (by omega) ?_
      refine hQ _ _ ⟨by rw [hend]; exact hW, by omega, ?_, fun _ => hT, hF⟩
      rw [hend, h0]
      constructor <;> intro q <;> omega
    · -- 36 f
      refine g_iload5 dX4_tryTurn_39 rfl ?_
      refine g_iconstI dX4_tryTurn_41 rfl rfl (fun w41 h41 => ?_)
      refine g_icmp_eqI (t := 150) dX4_tryTurn_42 (by decide) rfl (fun c42 => ?_) (fun c42 => ?_)
      · -- 42 t
        have hend : wfold (wkSet (fun T1 σ1 => wkOn r T1 (dn ||| 2 ^ p) (n + 1) σ1) T p) 4096 σ0 = σc := by
          rcases hS with ⟨-, q⟩ | ⟨m, hm, hfit, -, hkm⟩
          · exact q
          · omega
        refine g_iconstI dX4_tryTurn_150 rfl rfl (fun w150 h150 => ?_)
        refine g_zretI dX4_tryTurn_151 rfl (by omega) ?_
        refine hQ _ _ ⟨by rw [hend]; exact hW, by omega, ?_, fun _ => hT, hF⟩
        rw [hend, h0]
        constructor <;> intro q <;> omega
      · -- 42 f
        obtain ⟨m, hm, hfit, hwm, hkm⟩ : ∃ m : Nat, set.toInt = (m : Int) ∧ fitT T p m ∧ wfold (wkSet (fun T1 σ1 => wkOn r T1 (dn ||| 2 ^ p) (n + 1) σ1) T p) m σ0 = σc ∧ k.toInt ≤ (m : Int) := by
          rcases hS with ⟨q, -⟩ | h
          · omega
          · exact h
        clear hS
        have hmh := sub_le hfit.2.1
        have h6 : hasT T p ≤ 4095 := by rw [hasT]; omega
        obtain ⟨hcan, htk0, htk1⟩ := fit_can hO hpp.1 hfit hI.2.2
        have hcan0 := hcan
        have hkn : (takerT T p).toNat < 6 := by omega
        have hne : p ≠ (takerT T p).toNat := hcan.2.2.1
        have hsr : 0 ≤ sandT T p m ∧ sandT T p m ≤ T 3 p := ⟨hcan.2.2.2.2.1, hcan.2.2.2.2.2⟩
        have hL1 := LFT.step (by omega) hL hlp
        have hl64 := hL.2.2
        have hbnl : bn lI = left := bn_lit hlI
        refine g_aload_n0 dX4_tryTurn_45 rfl ?_
        refine g_dup dX4_tryTurn_46 rfl rfl ?_
        refine g_geti dX4_tryTurn_47 rfl fX4_26 hA.1 rfl ?_
        refine g_iconstI dX4_tryTurn_50 rfl rfl (fun w50 h50 => ?_)
        refine g_iaddI dX4_tryTurn_51 rfl ⟨by omega, by omega⟩ (fun w51 h51 => ?_)
        refine g_put dX4_tryTurn_52 rfl fX4_26 hA.1 rfl rfl rfl ?_
        obtain ⟨M3, hM3⟩ : ∃ M3, M3 = g_u M 240 3 w51 := ⟨_, rfl⟩
        refine g_fwd (M1 := M3) ?_ hM3
        obtain ⟨σd, hσd⟩ : ∃ σd : gWk, σd = if σc.1 = 20000 then (σc.1, σc.2.1, σc.2.2.1, 2) else (σc.1 + 1, σc.2) := ⟨_, rfl⟩
        have hWd : WKc σd M3 := by
          rw [hσd]
          by_cases q : σc.1 = 20000
          · rw [if_pos q]
            refine ⟨WKp.sp hW.1 q, ?_, ?_, fun i hi => ?_⟩
            · rw [hM3, g_u_eq, if_pos rfl, if_pos rfl]; show _ = σc.1 + 1; omega
            · rw [hM3, g_u_eq, if_neg (by decide)]; exact w6
            · rw [hM3, g_u_ne (by decide)]; exact w7 i hi
          · rw [if_neg q]
            refine ⟨WKp.add hW.1 h0 q, ?_, ?_, fun i hi => ?_⟩
            · rw [hM3, g_u_eq, if_pos rfl, if_neg (by show ¬ σc.2.2.2 = 2; omega)]; show _ = σc.1 + 1 + 0; omega
            · rw [hM3, g_u_eq, if_neg (by decide)]; exact w6
            · rw [hM3, g_u_ne (by decide)]; exact w7 i hi
        have hF3 : frV M0 M3 := by rw [hM3]; exact frV.tr hF (frV.u (Or.inl rfl))
        have hT3 : tv M3 180 = T := by rw [← hT]; exact tv_far (fun j a b => by rw [hM3, g_u_ne (by omega)])
        have hTt3 : TBt M3 180 := by rw [hM3]; exact TBt.far hTt (g_u_ne (by decide)) (g_u_ne (by decide)) (g_u_ne (by decide))
        have hB3 : TB M3 180 := TB.of (by rw [hT3]; exact hO) hTt3
        have hset : wkSet (fun T1 σ1 => wkOn r T1 (dn ||| 2 ^ p) (n + 1) σ1) T p m σc = if σc.1 = 20000 then (σc.1, σc.2.1, σc.2.2.1, 2) else wkOn r (handT T p m (sandT T p m) (takerT T p).toNat) (dn ||| 2 ^ p) (n + 1) (σc.1 + 1, σc.2) := by
          by_cases q : σc.1 = 20000
          · rw [if_pos q, wkSet_sp ⟨h0, hfit⟩ q]
          · rw [if_neg q, wkSet_on ⟨h0, hfit⟩ q]
        have hw1 : wfold (wkSet (fun T1 σ1 => wkOn r T1 (dn ||| 2 ^ p) (n + 1) σ1) T p) (m + 1) σ0 = wkSet (fun T1 σ1 => wkOn r T1 (dn ||| 2 ^ p) (n + 1) σ1) T p m σc := by
          show wkSet (fun T1 σ1 => wkOn r T1 (dn ||| 2 ^ p) (n + 1) σ1) T p m (wfold (wkSet (fun T1 σ1 => wkOn r T1 (dn ||| 2 ^ p) (n + 1) σ1) T p) m σ0) = _
          rw [hwm]
        clear hM3 w5 w6 w7
        refine g_aload_n0 dX4_tryTurn_55 rfl ?_
        refine g_callVi0 dX4_tryTurn_56 rfl vX4_52 hA.1 rfl (c_wkSpent hA hWd) (g_rm (by omega)) (Nat.le_of_ble_eq_true rfl) (fun z56 M56 e56 => ?_)
        obtain ⟨rfl, e56, f56⟩ := e56
        refine g_if_eqI (t := 64) dX4_tryTurn_59 (by decide) rfl (fun c59 => ?_) (fun c59 => ?_)
        · -- 59 t
          have hq : ¬ σc.1 = 20000 := fun q => by
            have := f56.mpr (by rw [hσd, if_pos q])
            omega
          clear f56 e56
          rw [if_neg hq] at hσd hset
          have hd0 : σd.2.2.2 = 0 := by rw [hσd]; exact h0
          refine g_aload_n0 dX4_tryTurn_64 rfl ?_
          refine g_getr dX4_tryTurn_65 rfl fX4_12 hA.1 rfl ?_
          refine g_iload_n1 dX4_tryTurn_68 rfl ?_
          refine g_iload5 dX4_tryTurn_69 rfl ?_
          refine g_callVi2 dX4_tryTurn_71 rfl vX4_67 hA.2.2.1 rfl (c_sandFor hA.2.2 hB3 (by omega) (by omega)) (g_rm (by omega)) (Nat.le_of_ble_eq_true rfl) (fun z71 M71 e71 => ?_)
          obtain ⟨rfl, e71⟩ := e71
          have hz71 : z71.toInt = sandT T p m := by rw [e71, show gI.toInt.toNat = p by omega, show set.toInt.toNat = m by omega, v_sand hp6, hT3]
          refine g_istore7 dX4_tryTurn_74 rfl rfl ?_
          refine g_aload_n0 dX4_tryTurn_76 rfl ?_
          refine g_getr dX4_tryTurn_77 rfl fX4_12 hA.1 rfl ?_
          refine g_iload_n1 dX4_tryTurn_80 rfl ?_
          refine g_iload5 dX4_tryTurn_81 rfl ?_
          refine g_iload7 dX4_tryTurn_83 rfl ?_
          refine g_iload4 dX4_tryTurn_85 rfl ?_
          refine g_callVv4 dX4_tryTurn_87 rfl vX4_70 hA.2.2.1 rfl (c_hand hA.2.2 (by omega) (by omega)) (g_rm (by omega)) (Nat.le_of_ble_eq_true rfl) (fun M87 e87 => ?_)
          rw [show gI.toInt.toNat = p by omega, show tk.toInt.toNat = (takerT T p).toNat by rw [htk]] at e87
          have hbs : bn set = m := bn_lit hm
          have htk2 : tk.toInt = ((takerT T p).toNat : Int) := by omega
          have hT4 : tv M87 180 = handT T p m z71.toInt (takerT T p).toNat := by
            rw [e87, v_hand (by rw [hT3]; exact hO) hp6 hkn hne (by rw [hbs]; omega) (by rw [hT3]; omega), hT3, hbs]
          have hF4 : frV M0 M87 := by rw [e87]; exact frV.tr hF3 frV.hand
          have hTt4 : TBt M87 180 := by rw [e87]; exact frV.tbt frV.hand hTt3
          have hW4 : WKc σd M87 := by
            rw [e87]
            unfold WKc at hWd ⊢
            rw [handM_ne (by decide) (by decide), handM_ne (by decide) (by decide)]; exact hWd
          rw [← hz71] at hcan
          clear e87
          refine g_aload_n0 dX4_tryTurn_90 rfl ?_
          refine g_iload_n2 dX4_tryTurn_91 rfl ?_
          refine g_iconstI dX4_tryTurn_92 rfl rfl (fun w92 h92 => ?_)
          refine g_iload_n1 dX4_tryTurn_93 rfl ?_
          refine g_ishlB dX4_tryTurn_94 rfl ⟨by omega, by omega⟩ (fun w94 h94 => ?_)
          rw [bn_lit (n := 1) h92, Nat.shiftLeft_eq, Nat.one_mul, show gI.toInt.toNat = p by omega] at h94
          have h2p : 2 ^ p ≤ 32 := Nat.pow_le_pow_right (by decide : 2 > 0) (show p ≤ 5 by omega)
          rw [Nat.mod_eq_of_lt (by omega)] at h94
          refine g_iconst (v := -1) dX4_tryTurn_95 rfl rfl ?_
          refine g_ixorB dX4_tryTurn_96 rfl  (fun w96 h96 => ?_)
          rw [h94, show bn (-1) = 4294967295 from rfl] at h96
          refine g_iandB dX4_tryTurn_97 rfl  (fun w97 h97 => ?_)
          rw [hbnl, h96, and_not (by omega)] at h97
          have hndl := nd_le left (2 ^ p)
          refine g_iload_n3 dX4_tryTurn_98 rfl ?_
          refine g_iconstI dX4_tryTurn_99 rfl rfl (fun w99 h99 => ?_)
          refine g_iaddI dX4_tryTurn_100 rfl ⟨by omega, by omega⟩ (fun w100 h100 => ?_)
          refine g_callVi2 dX4_tryTurn_101 rfl vX4_42 hA.1 rfl (hH _ _ (dn ||| 2 ^ p) (n + 1) (nd left (2 ^ p)) _ _ σd _ (INV.hand hI hcan) (RW.hand (n := z71) hI hr hcan htk2) hT4 hTt4 (LFT.hand hL1) (by omega) (by rw [i_bn (by omega), h97]) (by omega) hW4 hd0) (g_rm (by omega)) (Nat.le_of_ble_eq_true rfl) (fun z101 M101 e101 => ?_)
          obtain ⟨hW5a, b5, f5, hT5a, hF5a⟩ := e101
          rw [hz71] at hW5a f5
          rw [hσd] at hW5a f5
          rw [← hset] at hW5a f5
          refine g_if_eqI (t := 109) dX4_tryTurn_104 (by decide) rfl (fun c104 => ?_) (fun c104 => ?_)
          · -- 104 t
            have hn1 : ¬ (wkSet (fun T1 σ1 => wkOn r T1 (dn ||| 2 ^ p) (n + 1) σ1) T p m σc).2.2.2 = 1 := fun q => by have := f5.mpr q; omega
            clear f5
            have hT5b := hT5a c104
            clear hT5a
            refine g_aload_n0 dX4_tryTurn_109 rfl ?_
            refine g_getr dX4_tryTurn_110 rfl fX4_12 hA.1 rfl ?_
            refine g_iload4 dX4_tryTurn_113 rfl ?_
            refine g_iload5 dX4_tryTurn_115 rfl ?_
            refine g_iload7 dX4_tryTurn_117 rfl ?_
            refine g_iload_n1 dX4_tryTurn_119 rfl ?_
            refine g_callVv4 dX4_tryTurn_120 rfl vX4_70 hA.2.2.1 rfl (c_hand hA.2.2 (by omega) (by omega)) (g_rm (by omega)) (Nat.le_of_ble_eq_true rfl) (fun M120 e120 => ?_)
            rw [show gI.toInt.toNat = p by omega, show tk.toInt.toNat = (takerT T p).toNat by rw [htk]] at e120
            have hO1 := (INV.hand hI hcan).1
            have hT5 : tv M120 180 = T := by
              have e3 : handT T p m z71.toInt (takerT T p).toNat 3 (takerT T p).toNat = T 3 (takerT T p).toNat + z71.toInt := by simp [handT, upT]
              have hbk := hO.2.2.2.2.2.2.1 (takerT T p).toNat hkn
              rw [e120, v_hand (by rw [hT5b]; exact hO1) hkn hp6 (fun q => hne q.symm) (by rw [hbs]; omega) (by rw [hT5b, e3]; omega), hT5b, hbs]
              exact hand_back hI hr hcan
            have hF5 : frV M0 M120 := by rw [e120]; exact frV.tr hF4 (frV.tr hF5a frV.hand)
            have hTt5 : TBt M120 180 := by rw [e120]; exact frV.tbt frV.hand (frV.tbt hF5a hTt4)
            have hB5 : TB M120 180 := TB.of (by rw [hT5]; exact hO) hTt5
            have hW5 : WKc (wkSet (fun T1 σ1 => wkOn r T1 (dn ||| 2 ^ p) (n + 1) σ1) T p m σc) M120 := by
              rw [e120]
              unfold WKc at hW5a ⊢
              rw [handM_ne (by decide) (by decide), handM_ne (by decide) (by decide)]; exact hW5a
            clear e120
            refine g_aload_n0 dX4_tryTurn_123 rfl ?_
            refine g_callVi0 dX4_tryTurn_124 rfl vX4_52 hA.1 rfl (c_wkSpent hA hW5) (g_rm (by omega)) (Nat.le_of_ble_eq_true rfl) (fun z124 M124 e124 => ?_)
            obtain ⟨hMM, e124, f124⟩ := e124
            subst M124
            refine g_if_eqI (t := 132) dX4_tryTurn_127 (by decide) rfl (fun c127 => ?_) (fun c127 => ?_)
            · -- 127 t
              have hn2 : ¬ (wkSet (fun T1 σ1 => wkOn r T1 (dn ||| 2 ^ p) (n + 1) σ1) T p m σc).2.2.2 = 2 := fun q => by have := f124.mpr q; omega
              clear f124 e124
              have hf0 : (wkSet (fun T1 σ1 => wkOn r T1 (dn ||| 2 ^ p) (n + 1) σ1) T p m σc).2.2.2 = 0 := by
                have := hW5.1.1.2.2
                omega
              refine g_aload_n0 dX4_tryTurn_132 rfl ?_
              refine g_getr dX4_tryTurn_133 rfl fX4_12 hA.1 rfl ?_
              refine g_iload_n1 dX4_tryTurn_136 rfl ?_
              refine g_iload5 dX4_tryTurn_137 rfl ?_
              refine g_callVi2 dX4_tryTurn_139 rfl vX4_64 hA.2.2.1 rfl (c_nextFit hA.2.2 hB5 (by omega) (Or.inr ⟨by omega, by rw [show bn set = m from bn_lit hm, show gI.toInt.toNat = p by omega, v_has hB5 hp6, hT5]; exact hfit.2.1⟩)) (g_rm (by omega)) (Nat.le_of_ble_eq_true rfl) (fun z139 M139 e139 => ?_)
              obtain ⟨hMM, e139⟩ := e139
              subst M139
              rw [show gI.toInt.toNat = p by omega, hm] at e139
              have hnx := nf_T hB5 hT5 hp6 e139
              clear e139
              refine g_istore5 dX4_tryTurn_142 rfl rfl ?_
              refine g_iincI6 dX4_tryTurn_144 rfl rfl rfl ⟨by omega, by omega⟩ (fun w144 h144 => ?_)
              refine g_goto (t := 31) dX4_tryTurn_147 (by decide) ?_
              have hnew : (((z139).toInt = -1 ∧ wfold (wkSet (fun T1 σ1 => wkOn r T1 (dn ||| 2 ^ p) (n + 1) σ1) T p) 4096 σ0 = wkSet (fun T1 σ1 => wkOn r T1 (dn ||| 2 ^ p) (n + 1) σ1) T p m σc) ∨ ∃ m9 : Nat, (z139).toInt = (m9 : Int) ∧ fitT T p m9 ∧ wfold (wkSet (fun T1 σ1 => wkOn r T1 (dn ||| 2 ^ p) (n + 1) σ1) T p) m9 σ0 = wkSet (fun T1 σ1 => wkOn r T1 (dn ||| 2 ^ p) (n + 1) σ1) T p m σc ∧ (w144).toInt ≤ (m9 : Int)) := by
                rcases hnx with ⟨z1, z2⟩ | ⟨m2, z1, z2, z3, z4⟩
                · refine Or.inl ⟨z1, ?_⟩
                  rw [wfold_to (a := m + 1) (show m + 1 ≤ 4096 by omega) (fun u a b τ => wkSet_no (fun q => z2 u (by omega) q.2)), hw1]
                · refine Or.inr ⟨m2, z1, z3, ?_, by omega⟩
                  rw [wfold_to (a := m + 1) (show m + 1 ≤ m2 by omega) (fun u a b τ => wkSet_no (fun q => z4 u (by omega) b q.2)), hw1]
              have hdec : 4096 - z139.toInt.toNat < n9 ∨ z139.toInt = -1 := by
                clear hnew
                rcases hnx with ⟨z1, -⟩ | ⟨m2, z1, z2, -, -⟩
                · exact Or.inr z1
                · exact Or.inl (by omega)
              clear hnx
              by_cases hz1 : z139.toInt = -1
              · -- the end
                have hend : wfold (wkSet (fun T1 σ1 => wkOn r T1 (dn ||| 2 ^ p) (n + 1) σ1) T p) 4096 σ0 = wkSet (fun T1 σ1 => wkOn r T1 (dn ||| 2 ^ p) (n + 1) σ1) T p m σc := by
                  rcases hnew with ⟨-, q⟩ | ⟨m2, q, -⟩
                  · exact q
                  · omega
                clear hnew hdec
                refine g_iload6 dX4_tryTurn_31 rfl ?_
                refine g_sipushI dX4_tryTurn_33 rfl rfl (fun w33 h33 => ?_)
                refine g_icmp_geI (t := 150) dX4_tryTurn_36 (by decide) rfl (fun c36 => ?_) (fun c36 => ?_)
                · -- 36 t
                  refine g_iconstI dX4_tryTurn_150 rfl rfl (fun w150 h150 => ?_)
                  refine g_zretI dX4_tryTurn_151 rfl (by omega) ?_
                  refine hQ _ _ ⟨by rw [hend]; exact hW5, by omega, ?_, fun _ => hT5, hF5⟩
                  rw [hend, hf0]
                  constructor <;> intro q <;> omega
                · -- 36 f
                  refine g_iload5 dX4_tryTurn_39 rfl ?_
                  refine g_iconstI dX4_tryTurn_41 rfl rfl (fun w41 h41 => ?_)
                  refine g_icmp_eqI (t := 150) dX4_tryTurn_42 (by decide) rfl (fun c42 => ?_) (fun c42 => absurd c42 (by omega))
                  refine g_iconstI dX4_tryTurn_150 rfl rfl (fun w150 h150 => ?_)
                  refine g_zretI dX4_tryTurn_151 rfl (by omega) ?_
                  refine hQ _ _ ⟨by rw [hend]; exact hW5, by omega, ?_, fun _ => hT5, hF5⟩
                  rw [hend, hf0]
                  constructor <;> intro q <;> omega
              · have hk9 : 0 ≤ w144.toInt := by clear hnew hdec; omega
                exact ih _ (hdec.resolve_right hz1) z139 w144 _ _ M120 rfl hk9 hT5 hTt5 hW5 hf0 hF5 hnew
            · -- 127 f
              have h2 := f124.mp (by omega)
              clear f124 e124
              have hend4 : wfold (wkSet (fun T1 σ1 => wkOn r T1 (dn ||| 2 ^ p) (n + 1) σ1) T p) 4096 σ0 = wkSet (fun T1 σ1 => wkOn r T1 (dn ||| 2 ^ p) (n + 1) σ1) T p m σc := by
                rw [wfold_fin (show m + 1 ≤ 4096 by omega) (by rw [hw1, h2]; decide), hw1]
              refine g_iconstI dX4_tryTurn_130 rfl rfl (fun w130 h130 => ?_)
              refine g_zretI dX4_tryTurn_131 rfl (by omega) ?_
              refine hQ _ _ ⟨by rw [hend4]; exact hW5, by omega, ?_, fun _ => hT5, hF5⟩
              rw [hend4, h2]
              constructor <;> intro q <;> omega
          · -- 104 f
            have h1 := f5.mp (by omega)
            clear f5
            have hend3 : wfold (wkSet (fun T1 σ1 => wkOn r T1 (dn ||| 2 ^ p) (n + 1) σ1) T p) 4096 σ0 = wkSet (fun T1 σ1 => wkOn r T1 (dn ||| 2 ^ p) (n + 1) σ1) T p m σc := by
              rw [wfold_fin (show m + 1 ≤ 4096 by omega) (by rw [hw1, h1]; decide), hw1]
            refine g_iconstI dX4_tryTurn_107 rfl rfl (fun w107 h107 => ?_)
            refine g_zretI dX4_tryTurn_108 rfl (by omega) ?_
            refine hQ _ _ ⟨by rw [hend3]; exact hW5a, by omega, ?_, fun q => by omega, frV.tr hF4 hF5a⟩
            rw [hend3, h1]
            constructor <;> intro q <;> omega
        · -- 59 f
          have h2 := f56.mp (by omega)
          clear f56 e56
          have hq : σc.1 = 20000 := by
            by_cases q : σc.1 = 20000
            · exact q
            · rw [hσd, if_neg q] at h2
              replace h2 : σc.2.2.2 = 2 := h2
              omega
          have hend2 : wfold (wkSet (fun T1 σ1 => wkOn r T1 (dn ||| 2 ^ p) (n + 1) σ1) T p) 4096 σ0 = σd := by
            have e1 : wfold (wkSet (fun T1 σ1 => wkOn r T1 (dn ||| 2 ^ p) (n + 1) σ1) T p) (m + 1) σ0 = σd := by rw [hw1, hset, if_pos hq, hσd, if_pos hq]
            rw [wfold_fin (show m + 1 ≤ 4096 by omega) (by rw [e1, h2]; decide), e1]
          refine g_iconstI dX4_tryTurn_62 rfl rfl (fun w62 h62 => ?_)
          refine g_zretI dX4_tryTurn_63 rfl (by omega) ?_
          refine hQ _ _ ⟨by rw [hend2]; exact hWd, by omega, ?_, fun _ => hT3, hF3⟩
          rw [hend2, h2]
          constructor <;> intro q <;> omega
