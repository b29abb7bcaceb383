set_option maxHeartbeats 1200000 in
theorem l_fg {Γ : gW} (hA : g_Get Γ) {T0 : gTw} (hI0 : INV T0) {who thing : Nat} {wI iI : Int32} (hwI : wI.toInt = (who : Int)) (hiI : iI.toInt = (thing : Int)) (hwho : (who : Int) < T0 0 0) (hthing : thing < 12) {t2 : Nat} {s0 : gGt × Int} {M0 : gM} {Q : Option Value → gM → Prop} (hQ : ∀ (M : gM) (z : Int32), z.toInt = (if (gfold (gStK who thing) 1000 s0).1.2.2.2 = 0 then (gfold (gStK who thing) 1000 s0).2 else -2) → frO M0 M → TBt M 200 → Q (some (.int z)) M) : ∀ (n9 : Nat) (gf fw le st : Int32) (σc : gGt × Int) (M : gM), 1000 - st.toInt.toNat = n9 → 0 ≤ st.toInt → st.toInt ≤ 1000 → GC T0 σc.1 M → (∃ Tc, tv M 200 = Tc ∧ TX T0 Tc ∧ TBt M 200) → fw.toInt = σc.2 → (0 ≤ gf.toInt ∧ gf.toInt ≤ st.toInt ∧ 0 ≤ le.toInt) → gLev σc.1 st.toInt.toNat gf.toInt le.toInt.toNat → frO M0 M → gfold (gStK who thing) st.toInt.toNat s0 = σc → G Γ μX1_fewestGifts (g_R 6) (0, 0) (g_Z Γ Q) 45 [some (.ref 250), some (.ref t2), some (.int wI), some (.int iI), some (.int gf), some (.int fw), some (.int le), some (.int st)] [] M := by
  intro n9
  induction n9 using Nat.strongRecOn with
  | ind n9 ih =>
    intro gf fw le st σc M h9 hs0 hs1 hG htown hfw hgf hlev0 hF hw
    obtain ⟨Tc, hTc, hXc, hTt⟩ := htown
    have hb0 := hI0.1.1
    obtain ⟨g1, g2, g3, g4, g5, -⟩ := id hG
    have hstop : ¬ (st.toInt.toNat < σc.1.1 ∧ σc.1.2.2.2 = 0) → gfold (gStK who thing) 1000 s0 = σc := fun h => by
      rw [gfold_tail (i := st.toInt.toNat) 1000 (by omega) (fun u a _ => by rw [hw, gStK, if_neg (fun hc => h ⟨by omega, hc.2⟩)]), hw]
    refine g_iload7 dX1_fewestGifts_45 rfl ?_
    refine g_sipushI dX1_fewestGifts_47 rfl rfl (fun w47 h47 => ?_)
    refine g_icmp_geI (t := 129) dX1_fewestGifts_50 (by decide) rfl (fun c50 => ?_) (fun c50 => ?_)
    · -- 50 t
      refine g_aload_n0 dX1_fewestGifts_129 rfl ?_
      refine g_geti dX1_fewestGifts_130 rfl fX1_33 hA.1 rfl ?_
      refine g_if_eqI (t := 141) dX1_fewestGifts_133 (by decide) rfl (fun c133 => ?_) (fun c133 => ?_)
      · -- 133 t
        refine g_iload5 dX1_fewestGifts_141 rfl ?_
        refine g_iret dX1_fewestGifts_143 rfl ?_
        refine hQ _ _ ?_ hF hTt
        first
          | (rw [hstop (by omega), if_neg (by omega)]; exact h136)
          | (rw [hstop (by omega), if_pos (by omega)]; exact hfw)
      · -- 133 f
        refine g_bipushI dX1_fewestGifts_136 rfl rfl (fun w136 h136 => ?_)
        refine g_goto (t := 143) dX1_fewestGifts_138 (by decide) ?_
        refine g_iret dX1_fewestGifts_143 rfl ?_
        refine hQ _ _ ?_ hF hTt
        first
          | (rw [hstop (by omega), if_neg (by omega)]; exact h136)
          | (rw [hstop (by omega), if_pos (by omega)]; exact hfw)
    · -- 50 f
      refine g_iload7 dX1_fewestGifts_53 rfl ?_
      refine g_aload_n0 dX1_fewestGifts_55 rfl ?_
      refine g_geti dX1_fewestGifts_56 rfl fX1_29 hA.1 rfl ?_
      refine g_icmp_geI (t := 129) dX1_fewestGifts_59 (by decide) rfl (fun c59 => ?_) (fun c59 => ?_)
      · -- 59 t
        refine g_aload_n0 dX1_fewestGifts_129 rfl ?_
        refine g_geti dX1_fewestGifts_130 rfl fX1_33 hA.1 rfl ?_
        refine g_if_eqI (t := 141) dX1_fewestGifts_133 (by decide) rfl (fun c133 => ?_) (fun c133 => ?_)
        · -- 133 t
          refine g_iload5 dX1_fewestGifts_141 rfl ?_
          refine g_iret dX1_fewestGifts_143 rfl ?_
          refine hQ _ _ ?_ hF hTt
          first
            | (rw [hstop (by omega), if_neg (by omega)]; exact h136)
            | (rw [hstop (by omega), if_pos (by omega)]; exact hfw)
        · -- 133 f
          refine g_bipushI dX1_fewestGifts_136 rfl rfl (fun w136 h136 => ?_)
          refine g_goto (t := 143) dX1_fewestGifts_138 (by decide) ?_
          refine g_iret dX1_fewestGifts_143 rfl ?_
          refine hQ _ _ ?_ hF hTt
          first
            | (rw [hstop (by omega), if_neg (by omega)]; exact h136)
            | (rw [hstop (by omega), if_pos (by omega)]; exact hfw)
      · -- 59 f
        refine g_aload_n0 dX1_fewestGifts_62 rfl ?_
        refine g_geti dX1_fewestGifts_63 rfl fX1_33 hA.1 rfl ?_
        refine g_if_neI (t := 129) dX1_fewestGifts_66 (by decide) rfl (fun c66 => ?_) (fun c66 => ?_)
        · -- 66 t
          refine g_aload_n0 dX1_fewestGifts_129 rfl ?_
          refine g_geti dX1_fewestGifts_130 rfl fX1_33 hA.1 rfl ?_
          refine g_if_eqI (t := 141) dX1_fewestGifts_133 (by decide) rfl (fun c133 => ?_) (fun c133 => ?_)
          · -- 133 t
            refine g_iload5 dX1_fewestGifts_141 rfl ?_
            refine g_iret dX1_fewestGifts_143 rfl ?_
            refine hQ _ _ ?_ hF hTt
            first
              | (rw [hstop (by omega), if_neg (by omega)]; exact h136)
              | (rw [hstop (by omega), if_pos (by omega)]; exact hfw)
          · -- 133 f
            refine g_bipushI dX1_fewestGifts_136 rfl rfl (fun w136 h136 => ?_)
            refine g_goto (t := 143) dX1_fewestGifts_138 (by decide) ?_
            refine g_iret dX1_fewestGifts_143 rfl ?_
            refine hQ _ _ ?_ hF hTt
            first
              | (rw [hstop (by omega), if_neg (by omega)]; exact h136)
              | (rw [hstop (by omega), if_pos (by omega)]; exact hfw)
        · -- 66 f
          have h00 : σc.1.2.2.2 = 0 := by omega
          have q1 := g5 st.toInt.toNat (by omega)
          have e00 := q1.2.1.o 0
          clear hstop
          refine g_iload7 dX1_fewestGifts_69 rfl ?_
          refine g_iload6 dX1_fewestGifts_71 rfl ?_
          refine g_icmp_neI (t := 85) dX1_fewestGifts_73 (by decide) rfl (fun c73 => ?_) (fun c73 => ?_)
          · -- 73 t
            first
              | (have hne := c73
                 have hlt : st.toInt.toNat < le.toInt.toNat := by have := hlev0.1; omega
                 have hlev := hlev0
                 refine g_aload_n0 dX1_fewestGifts_85 rfl ?_
                 refine g_iload7 dX1_fewestGifts_86 rfl ?_
                 refine g_callVv1 dX1_fewestGifts_88 rfl vX1_50 hA.1 rfl (c_load (k := st.toInt.toNat) (Tk := σc.1.2.1 st.toInt.toNat) (T := Tc) hA q1.1.1 (TX.two hXc q1.2.1) (by omega) (by omega) hTc q1.2.2) (g_rm (by omega)) (Nat.le_of_ble_eq_true rfl) (fun M88 e88 => ?_)
                 obtain ⟨hq8, hT8⟩ := e88
                 have hTt8 : TBt M88 200 := frO.tbt hq8.o hTt
                 have hB8 : TB M88 200 := TB.of (by rw [hT8]; exact q1.1.1) hTt8
                 have hH8 : GH T0 (σc.1.2.1 st.toInt.toNat) st.toInt.toNat σc.1 M88 := ⟨GC.q hG hq8, by omega, rfl, hT8, hTt8⟩
                 have hstp : σc.1.2.2.1 st.toInt.toNat = gf.toInt := hlev.2.2.1 st.toInt.toNat (Nat.le_refl _) hlt
                 refine g_aload_n0 dX1_fewestGifts_91 rfl ?_
                 refine g_getr dX1_fewestGifts_92 rfl fX1_25 hA.1 rfl ?_
                 refine g_iload_n2 dX1_fewestGifts_95 rfl ?_
                 refine g_iload_n3 dX1_fewestGifts_96 rfl ?_
                 refine g_callVi2 dX1_fewestGifts_97 rfl vX1_54 hA.2.2.2.2.1 rfl (c_holds hA.2.2.2.2 hB8 (by omega) (by omega)) (g_rm (by omega)) (Nat.le_of_ble_eq_true rfl) (fun z97 M97 e97 => ?_)
                 obtain ⟨hMM, e97⟩ := e97
                 subst M97
                 rw [show wI.toInt.toNat = who by omega, show iI.toInt.toNat = thing by omega, v_has hB8 (by omega), hT8] at e97
                 refine g_if_neI (t := 113) dX1_fewestGifts_100 (by decide) rfl (fun c100 => ?_) (fun c100 => ?_)
                 · -- 100 t
                   have hyes : (hasT (σc.1.2.1 st.toInt.toNat) who).testBit thing = true := by
                     cases hb : (hasT (σc.1.2.1 st.toInt.toNat) who).testBit thing
                     · rw [hb] at e97; simp at e97; omega
                     · rfl
                   refine g_iload5 dX1_fewestGifts_113 rfl ?_
                   refine g_iconstI dX1_fewestGifts_115 rfl rfl (fun w115 h115 => ?_)
                   refine g_icmp_neI (t := 123) dX1_fewestGifts_116 (by decide) rfl (fun c116 => ?_) (fun c116 => ?_)
                   · -- 116 t
                     refine g_iincI7 dX1_fewestGifts_123 rfl rfl rfl ⟨by omega, by omega⟩ (fun w123 h123 => ?_)
                     refine g_goto (t := 45) dX1_fewestGifts_126 (by decide) ?_
                     have e1 : w123.toInt.toNat = st.toInt.toNat + 1 := by omega
                     first
                       | (have hz := hnot
                          obtain ⟨hH9, hF9⟩ := e107
                          refine ih _ (show 1000 - w123.toInt.toNat < n9 by omega) gf _ le w123 (gfold (gPer (σc.1.2.1 st.toInt.toNat) who (σc.1.2.2.1 st.toInt.toNat + 1)) (σc.1.2.1 st.toInt.toNat 0 0).toNat σc.1, σc.2) M107 rfl (by omega) (by omega) hH9.1 ⟨_, hH9.2.2.2.1, q1.2.1, hH9.2.2.2.2⟩ hfw (by omega) ?_ (frO.tr hF (frO.tr hq8.o hF9)) ?_
                          · rw [e1]
                            refine gLev.step hlev hlt ?_
                            rw [← hstp]
                            exact gfold_nb (fun _ _ => gPer_nb) _ _
                          · rw [e1]
                            show gStK who thing st.toInt.toNat (gfold _ st.toInt.toNat s0) = _
                            rw [hw, gStK, if_pos ⟨by omega, h00⟩, if_neg hz])
                       | (have hz := hyes
                          have hq : fw.toInt = -1 := by omega
                          refine ih _ (show 1000 - w123.toInt.toNat < n9 by omega) gf gf le w123 (σc.1, σc.1.2.2.1 st.toInt.toNat) M88 rfl (by omega) (by omega) hH8.1 ⟨_, hT8, q1.2.1, hTt8⟩ hstp.symm (by omega) ?_ (frO.tr hF hq8.o) ?_
                          · rw [e1]; exact gLev.step hlev hlt gNb.rf
                          · rw [e1]
                            show gStK who thing st.toInt.toNat (gfold _ st.toInt.toNat s0) = _
                            rw [hw, gStK, if_pos ⟨by omega, h00⟩, if_pos hz, if_pos (by omega)])
                       | (have hz := hyes
                          have hq : ¬ fw.toInt = -1 := by omega
                          refine ih _ (show 1000 - w123.toInt.toNat < n9 by omega) gf fw le w123 σc M88 rfl (by omega) (by omega) hH8.1 ⟨_, hT8, q1.2.1, hTt8⟩ hfw (by omega) ?_ (frO.tr hF hq8.o) ?_
                          · rw [e1]; exact gLev.step hlev hlt gNb.rf
                          · rw [e1]
                            show gStK who thing st.toInt.toNat (gfold _ st.toInt.toNat s0) = _
                            rw [hw, gStK, if_pos ⟨by omega, h00⟩, if_pos hz, if_neg (by omega)])
                   · -- 116 f
                     refine g_iload4 dX1_fewestGifts_119 rfl ?_
                     refine g_istore5 dX1_fewestGifts_121 rfl rfl ?_
                     refine g_iincI7 dX1_fewestGifts_123 rfl rfl rfl ⟨by omega, by omega⟩ (fun w123 h123 => ?_)
                     refine g_goto (t := 45) dX1_fewestGifts_126 (by decide) ?_
                     have e1 : w123.toInt.toNat = st.toInt.toNat + 1 := by omega
                     first
                       | (have hz := hnot
                          obtain ⟨hH9, hF9⟩ := e107
                          refine ih _ (show 1000 - w123.toInt.toNat < n9 by omega) gf _ le w123 (gfold (gPer (σc.1.2.1 st.toInt.toNat) who (σc.1.2.2.1 st.toInt.toNat + 1)) (σc.1.2.1 st.toInt.toNat 0 0).toNat σc.1, σc.2) M107 rfl (by omega) (by omega) hH9.1 ⟨_, hH9.2.2.2.1, q1.2.1, hH9.2.2.2.2⟩ hfw (by omega) ?_ (frO.tr hF (frO.tr hq8.o hF9)) ?_
                          · rw [e1]
                            refine gLev.step hlev hlt ?_
                            rw [← hstp]
                            exact gfold_nb (fun _ _ => gPer_nb) _ _
                          · rw [e1]
                            show gStK who thing st.toInt.toNat (gfold _ st.toInt.toNat s0) = _
                            rw [hw, gStK, if_pos ⟨by omega, h00⟩, if_neg hz])
                       | (have hz := hyes
                          have hq : fw.toInt = -1 := by omega
                          refine ih _ (show 1000 - w123.toInt.toNat < n9 by omega) gf gf le w123 (σc.1, σc.1.2.2.1 st.toInt.toNat) M88 rfl (by omega) (by omega) hH8.1 ⟨_, hT8, q1.2.1, hTt8⟩ hstp.symm (by omega) ?_ (frO.tr hF hq8.o) ?_
                          · rw [e1]; exact gLev.step hlev hlt gNb.rf
                          · rw [e1]
                            show gStK who thing st.toInt.toNat (gfold _ st.toInt.toNat s0) = _
                            rw [hw, gStK, if_pos ⟨by omega, h00⟩, if_pos hz, if_pos (by omega)])
                       | (have hz := hyes
                          have hq : ¬ fw.toInt = -1 := by omega
                          refine ih _ (show 1000 - w123.toInt.toNat < n9 by omega) gf fw le w123 σc M88 rfl (by omega) (by omega) hH8.1 ⟨_, hT8, q1.2.1, hTt8⟩ hfw (by omega) ?_ (frO.tr hF hq8.o) ?_
                          · rw [e1]; exact gLev.step hlev hlt gNb.rf
                          · rw [e1]
                            show gStK who thing st.toInt.toNat (gfold _ st.toInt.toNat s0) = _
                            rw [hw, gStK, if_pos ⟨by omega, h00⟩, if_pos hz, if_neg (by omega)])
                 · -- 100 f
                   have hnot : ¬ (hasT (σc.1.2.1 st.toInt.toNat) who).testBit thing = true := fun q => by rw [if_pos q] at e97; omega
                   refine g_aload_n0 dX1_fewestGifts_103 rfl ?_
                   refine g_iload7 dX1_fewestGifts_104 rfl ?_
                   refine g_iload_n2 dX1_fewestGifts_106 rfl ?_
                   refine g_callVv2 dX1_fewestGifts_107 rfl vX1_58 hA.1 rfl (c_spread (b := σc.1.2.2.1 st.toInt.toNat + 1) hA q1.1 q1.2.1 (k := st.toInt.toNat) (by omega) hwI hH8) (g_rm (by omega)) (Nat.le_of_ble_eq_true rfl) (fun M107 e107 => ?_)
                   refine g_goto (t := 123) dX1_fewestGifts_110 (by decide) ?_
                   refine g_iincI7 dX1_fewestGifts_123 rfl rfl rfl ⟨by omega, by omega⟩ (fun w123 h123 => ?_)
                   refine g_goto (t := 45) dX1_fewestGifts_126 (by decide) ?_
                   have e1 : w123.toInt.toNat = st.toInt.toNat + 1 := by omega
                   first
                     | (have hz := hnot
                        obtain ⟨hH9, hF9⟩ := e107
                        refine ih _ (show 1000 - w123.toInt.toNat < n9 by omega) gf _ le w123 (gfold (gPer (σc.1.2.1 st.toInt.toNat) who (σc.1.2.2.1 st.toInt.toNat + 1)) (σc.1.2.1 st.toInt.toNat 0 0).toNat σc.1, σc.2) M107 rfl (by omega) (by omega) hH9.1 ⟨_, hH9.2.2.2.1, q1.2.1, hH9.2.2.2.2⟩ hfw (by omega) ?_ (frO.tr hF (frO.tr hq8.o hF9)) ?_
                        · rw [e1]
                          refine gLev.step hlev hlt ?_
                          rw [← hstp]
                          exact gfold_nb (fun _ _ => gPer_nb) _ _
                        · rw [e1]
                          show gStK who thing st.toInt.toNat (gfold _ st.toInt.toNat s0) = _
                          rw [hw, gStK, if_pos ⟨by omega, h00⟩, if_neg hz])
                     | (have hz := hyes
                        have hq : fw.toInt = -1 := by omega
                        refine ih _ (show 1000 - w123.toInt.toNat < n9 by omega) gf gf le w123 (σc.1, σc.1.2.2.1 st.toInt.toNat) M88 rfl (by omega) (by omega) hH8.1 ⟨_, hT8, q1.2.1, hTt8⟩ hstp.symm (by omega) ?_ (frO.tr hF hq8.o) ?_
                        · rw [e1]; exact gLev.step hlev hlt gNb.rf
                        · rw [e1]
                          show gStK who thing st.toInt.toNat (gfold _ st.toInt.toNat s0) = _
                          rw [hw, gStK, if_pos ⟨by omega, h00⟩, if_pos hz, if_pos (by omega)])
                     | (have hz := hyes
                        have hq : ¬ fw.toInt = -1 := by omega
                        refine ih _ (show 1000 - w123.toInt.toNat < n9 by omega) gf fw le w123 σc M88 rfl (by omega) (by omega) hH8.1 ⟨_, hT8, q1.2.1, hTt8⟩ hfw (by omega) ?_ (frO.tr hF hq8.o) ?_
                        · rw [e1]; exact gLev.step hlev hlt gNb.rf
                        · rw [e1]
                          show gStK who thing st.toInt.toNat (gfold _ st.toInt.toNat s0) = _
                          rw [hw, gStK, if_pos ⟨by omega, h00⟩, if_pos hz, if_neg (by omega)]))
              | (have hlev := gLev.on hlev0 (by omega) (by omega)
                 have hlt : st.toInt.toNat < σc.1.1 := by omega
                 rw [← h76] at hlev
                 rw [show σc.1.1 = (M.1 250 4).toInt.toNat by omega] at hlev hlt
                 refine g_aload_n0 dX1_fewestGifts_85 rfl ?_
                 refine g_iload7 dX1_fewestGifts_86 rfl ?_
                 refine g_callVv1 dX1_fewestGifts_88 rfl vX1_50 hA.1 rfl (c_load (k := st.toInt.toNat) (Tk := σc.1.2.1 st.toInt.toNat) (T := Tc) hA q1.1.1 (TX.two hXc q1.2.1) (by omega) (by omega) hTc q1.2.2) (g_rm (by omega)) (Nat.le_of_ble_eq_true rfl) (fun M88 e88 => ?_)
                 obtain ⟨hq8, hT8⟩ := e88
                 have hTt8 : TBt M88 200 := frO.tbt hq8.o hTt
                 have hB8 : TB M88 200 := TB.of (by rw [hT8]; exact q1.1.1) hTt8
                 have hH8 : GH T0 (σc.1.2.1 st.toInt.toNat) st.toInt.toNat σc.1 M88 := ⟨GC.q hG hq8, by omega, rfl, hT8, hTt8⟩
                 have hstp : σc.1.2.2.1 st.toInt.toNat = w76.toInt := hlev.2.2.1 st.toInt.toNat (Nat.le_refl _) hlt
                 refine g_aload_n0 dX1_fewestGifts_91 rfl ?_
                 refine g_getr dX1_fewestGifts_92 rfl fX1_25 hA.1 rfl ?_
                 refine g_iload_n2 dX1_fewestGifts_95 rfl ?_
                 refine g_iload_n3 dX1_fewestGifts_96 rfl ?_
                 refine g_callVi2 dX1_fewestGifts_97 rfl vX1_54 hA.2.2.2.2.1 rfl (c_holds hA.2.2.2.2 hB8 (by omega) (by omega)) (g_rm (by omega)) (Nat.le_of_ble_eq_true rfl) (fun z97 M97 e97 => ?_)
                 obtain ⟨hMM, e97⟩ := e97
                 subst M97
                 rw [show wI.toInt.toNat = who by omega, show iI.toInt.toNat = thing by omega, v_has hB8 (by omega), hT8] at e97
                 refine g_if_neI (t := 113) dX1_fewestGifts_100 (by decide) rfl (fun c100 => ?_) (fun c100 => ?_)
                 · -- 100 t
                   have hyes : (hasT (σc.1.2.1 st.toInt.toNat) who).testBit thing = true := by
                     cases hb : (hasT (σc.1.2.1 st.toInt.toNat) who).testBit thing
                     · rw [hb] at e97; simp at e97; omega
                     · rfl
                   refine g_iload5 dX1_fewestGifts_113 rfl ?_
                   refine g_iconstI dX1_fewestGifts_115 rfl rfl (fun w115 h115 => ?_)
                   refine g_icmp_neI (t := 123) dX1_fewestGifts_116 (by decide) rfl (fun c116 => ?_) (fun c116 => ?_)
                   · -- 116 t
                     refine g_iincI7 dX1_fewestGifts_123 rfl rfl rfl ⟨by omega, by omega⟩ (fun w123 h123 => ?_)
                     refine g_goto (t := 45) dX1_fewestGifts_126 (by decide) ?_
                     have e1 : w123.toInt.toNat = st.toInt.toNat + 1 := by omega
                     first
                       | (have hz := hnot
                          obtain ⟨hH9, hF9⟩ := e107
                          refine ih _ (show 1000 - w123.toInt.toNat < n9 by omega) w76 _ (M.1 250 4) w123 (gfold (gPer (σc.1.2.1 st.toInt.toNat) who (σc.1.2.2.1 st.toInt.toNat + 1)) (σc.1.2.1 st.toInt.toNat 0 0).toNat σc.1, σc.2) M107 rfl (by omega) (by omega) hH9.1 ⟨_, hH9.2.2.2.1, q1.2.1, hH9.2.2.2.2⟩ hfw (by omega) ?_ (frO.tr hF (frO.tr hq8.o hF9)) ?_
                          · rw [e1]
                            refine gLev.step hlev hlt ?_
                            rw [← hstp]
                            exact gfold_nb (fun _ _ => gPer_nb) _ _
                          · rw [e1]
                            show gStK who thing st.toInt.toNat (gfold _ st.toInt.toNat s0) = _
                            rw [hw, gStK, if_pos ⟨by omega, h00⟩, if_neg hz])
                       | (have hz := hyes
                          have hq : fw.toInt = -1 := by omega
                          refine ih _ (show 1000 - w123.toInt.toNat < n9 by omega) w76 w76 (M.1 250 4) w123 (σc.1, σc.1.2.2.1 st.toInt.toNat) M88 rfl (by omega) (by omega) hH8.1 ⟨_, hT8, q1.2.1, hTt8⟩ hstp.symm (by omega) ?_ (frO.tr hF hq8.o) ?_
                          · rw [e1]; exact gLev.step hlev hlt gNb.rf
                          · rw [e1]
                            show gStK who thing st.toInt.toNat (gfold _ st.toInt.toNat s0) = _
                            rw [hw, gStK, if_pos ⟨by omega, h00⟩, if_pos hz, if_pos (by omega)])
                       | (have hz := hyes
                          have hq : ¬ fw.toInt = -1 := by omega
                          refine ih _ (show 1000 - w123.toInt.toNat < n9 by omega) w76 fw (M.1 250 4) w123 σc M88 rfl (by omega) (by omega) hH8.1 ⟨_, hT8, q1.2.1, hTt8⟩ hfw (by omega) ?_ (frO.tr hF hq8.o) ?_
                          · rw [e1]; exact gLev.step hlev hlt gNb.rf
                          · rw [e1]
                            show gStK who thing st.toInt.toNat (gfold _ st.toInt.toNat s0) = _
                            rw [hw, gStK, if_pos ⟨by omega, h00⟩, if_pos hz, if_neg (by omega)])
                   · -- 116 f
                     refine g_iload4 dX1_fewestGifts_119 rfl ?_
                     refine g_istore5 dX1_fewestGifts_121 rfl rfl ?_
                     refine g_iincI7 dX1_fewestGifts_123 rfl rfl rfl ⟨by omega, by omega⟩ (fun w123 h123 => ?_)
                     refine g_goto (t := 45) dX1_fewestGifts_126 (by decide) ?_
                     have e1 : w123.toInt.toNat = st.toInt.toNat + 1 := by omega
                     first
                       | (have hz := hnot
                          obtain ⟨hH9, hF9⟩ := e107
                          refine ih _ (show 1000 - w123.toInt.toNat < n9 by omega) w76 _ (M.1 250 4) w123 (gfold (gPer (σc.1.2.1 st.toInt.toNat) who (σc.1.2.2.1 st.toInt.toNat + 1)) (σc.1.2.1 st.toInt.toNat 0 0).toNat σc.1, σc.2) M107 rfl (by omega) (by omega) hH9.1 ⟨_, hH9.2.2.2.1, q1.2.1, hH9.2.2.2.2⟩ hfw (by omega) ?_ (frO.tr hF (frO.tr hq8.o hF9)) ?_
                          · rw [e1]
                            refine gLev.step hlev hlt ?_
                            rw [← hstp]
                            exact gfold_nb (fun _ _ => gPer_nb) _ _
                          · rw [e1]
                            show gStK who thing st.toInt.toNat (gfold _ st.toInt.toNat s0) = _
                            rw [hw, gStK, if_pos ⟨by omega, h00⟩, if_neg hz])
                       | (have hz := hyes
                          have hq : fw.toInt = -1 := by omega
                          refine ih _ (show 1000 - w123.toInt.toNat < n9 by omega) w76 w76 (M.1 250 4) w123 (σc.1, σc.1.2.2.1 st.toInt.toNat) M88 rfl (by omega) (by omega) hH8.1 ⟨_, hT8, q1.2.1, hTt8⟩ hstp.symm (by omega) ?_ (frO.tr hF hq8.o) ?_
                          · rw [e1]; exact gLev.step hlev hlt gNb.rf
                          · rw [e1]
                            show gStK who thing st.toInt.toNat (gfold _ st.toInt.toNat s0) = _
                            rw [hw, gStK, if_pos ⟨by omega, h00⟩, if_pos hz, if_pos (by omega)])
                       | (have hz := hyes
                          have hq : ¬ fw.toInt = -1 := by omega
                          refine ih _ (show 1000 - w123.toInt.toNat < n9 by omega) w76 fw (M.1 250 4) w123 σc M88 rfl (by omega) (by omega) hH8.1 ⟨_, hT8, q1.2.1, hTt8⟩ hfw (by omega) ?_ (frO.tr hF hq8.o) ?_
                          · rw [e1]; exact gLev.step hlev hlt gNb.rf
                          · rw [e1]
                            show gStK who thing st.toInt.toNat (gfold _ st.toInt.toNat s0) = _
                            rw [hw, gStK, if_pos ⟨by omega, h00⟩, if_pos hz, if_neg (by omega)])
                 · -- 100 f
                   have hnot : ¬ (hasT (σc.1.2.1 st.toInt.toNat) who).testBit thing = true := fun q => by rw [if_pos q] at e97; omega
                   refine g_aload_n0 dX1_fewestGifts_103 rfl ?_
                   refine g_iload7 dX1_fewestGifts_104 rfl ?_
                   refine g_iload_n2 dX1_fewestGifts_106 rfl ?_
                   refine g_callVv2 dX1_fewestGifts_107 rfl vX1_58 hA.1 rfl (c_spread (b := σc.1.2.2.1 st.toInt.toNat + 1) hA q1.1 q1.2.1 (k := st.toInt.toNat) (by omega) hwI hH8) (g_rm (by omega)) (Nat.le_of_ble_eq_true rfl) (fun M107 e107 => ?_)
                   refine g_goto (t := 123) dX1_fewestGifts_110 (by decide) ?_
                   refine g_iincI7 dX1_fewestGifts_123 rfl rfl rfl ⟨by omega, by omega⟩ (fun w123 h123 => ?_)
                   refine g_goto (t := 45) dX1_fewestGifts_126 (by decide) ?_
                   have e1 : w123.toInt.toNat = st.toInt.toNat + 1 := by omega
                   first
                     | (have hz := hnot
                        obtain ⟨hH9, hF9⟩ := e107
                        refine ih _ (show 1000 - w123.toInt.toNat < n9 by omega) w76 _ (M.1 250 4) w123 (gfold (gPer (σc.1.2.1 st.toInt.toNat) who (σc.1.2.2.1 st.toInt.toNat + 1)) (σc.1.2.1 st.toInt.toNat 0 0).toNat σc.1, σc.2) M107 rfl (by omega) (by omega) hH9.1 ⟨_, hH9.2.2.2.1, q1.2.1, hH9.2.2.2.2⟩ hfw (by omega) ?_ (frO.tr hF (frO.tr hq8.o hF9)) ?_
                        · rw [e1]
                          refine gLev.step hlev hlt ?_
                          rw [← hstp]
                          exact gfold_nb (fun _ _ => gPer_nb) _ _
                        · rw [e1]
                          show gStK who thing st.toInt.toNat (gfold _ st.toInt.toNat s0) = _
                          rw [hw, gStK, if_pos ⟨by omega, h00⟩, if_neg hz])
                     | (have hz := hyes
                        have hq : fw.toInt = -1 := by omega
                        refine ih _ (show 1000 - w123.toInt.toNat < n9 by omega) w76 w76 (M.1 250 4) w123 (σc.1, σc.1.2.2.1 st.toInt.toNat) M88 rfl (by omega) (by omega) hH8.1 ⟨_, hT8, q1.2.1, hTt8⟩ hstp.symm (by omega) ?_ (frO.tr hF hq8.o) ?_
                        · rw [e1]; exact gLev.step hlev hlt gNb.rf
                        · rw [e1]
                          show gStK who thing st.toInt.toNat (gfold _ st.toInt.toNat s0) = _
                          rw [hw, gStK, if_pos ⟨by omega, h00⟩, if_pos hz, if_pos (by omega)])
                     | (have hz := hyes
                        have hq : ¬ fw.toInt = -1 := by omega
                        refine ih _ (show 1000 - w123.toInt.toNat < n9 by omega) w76 fw (M.1 250 4) w123 σc M88 rfl (by omega) (by omega) hH8.1 ⟨_, hT8, q1.2.1, hTt8⟩ hfw (by omega) ?_ (frO.tr hF hq8.o) ?_
                        · rw [e1]; exact gLev.step hlev hlt gNb.rf
                        · rw [e1]
                          show gStK who thing st.toInt.toNat (gfold _ st.toInt.toNat s0) = _
                          rw [hw, gStK, if_pos ⟨by omega, h00⟩, if_pos hz, if_neg (by omega)]))
          · -- 73 f
            refine g_iincI4 dX1_fewestGifts_76 rfl rfl rfl ⟨by omega, by omega⟩ (fun w76 h76 => ?_)
            refine g_aload_n0 dX1_fewestGifts_79 rfl ?_
            refine g_geti dX1_fewestGifts_80 rfl fX1_29 hA.1 rfl ?_
            refine g_istore6 dX1_fewestGifts_83 rfl rfl ?_
            first
              | (have hne := c73
                 have hlt : st.toInt.toNat < le.toInt.toNat := by have := hlev0.1; omega
                 have hlev := hlev0
                 refine g_aload_n0 dX1_fewestGifts_85 rfl ?_
                 refine g_iload7 dX1_fewestGifts_86 rfl ?_
                 refine g_callVv1 dX1_fewestGifts_88 rfl vX1_50 hA.1 rfl (c_load (k := st.toInt.toNat) (Tk := σc.1.2.1 st.toInt.toNat) (T := Tc) hA q1.1.1 (TX.two hXc q1.2.1) (by omega) (by omega) hTc q1.2.2) (g_rm (by omega)) (Nat.le_of_ble_eq_true rfl) (fun M88 e88 => ?_)
                 obtain ⟨hq8, hT8⟩ := e88
                 have hTt8 : TBt M88 200 := frO.tbt hq8.o hTt
                 have hB8 : TB M88 200 := TB.of (by rw [hT8]; exact q1.1.1) hTt8
                 have hH8 : GH T0 (σc.1.2.1 st.toInt.toNat) st.toInt.toNat σc.1 M88 := ⟨GC.q hG hq8, by omega, rfl, hT8, hTt8⟩
                 have hstp : σc.1.2.2.1 st.toInt.toNat = gf.toInt := hlev.2.2.1 st.toInt.toNat (Nat.le_refl _) hlt
                 refine g_aload_n0 dX1_fewestGifts_91 rfl ?_
                 refine g_getr dX1_fewestGifts_92 rfl fX1_25 hA.1 rfl ?_
                 refine g_iload_n2 dX1_fewestGifts_95 rfl ?_
                 refine g_iload_n3 dX1_fewestGifts_96 rfl ?_
                 refine g_callVi2 dX1_fewestGifts_97 rfl vX1_54 hA.2.2.2.2.1 rfl (c_holds hA.2.2.2.2 hB8 (by omega) (by omega)) (g_rm (by omega)) (Nat.le_of_ble_eq_true rfl) (fun z97 M97 e97 => ?_)
                 obtain ⟨hMM, e97⟩ := e97
                 subst M97
                 rw [show wI.toInt.toNat = who by omega, show iI.toInt.toNat = thing by omega, v_has hB8 (by omega), hT8] at e97
                 refine g_if_neI (t := 113) dX1_fewestGifts_100 (by decide) rfl (fun c100 => ?_) (fun c100 => ?_)
                 · -- 100 t
                   have hyes : (hasT (σc.1.2.1 st.toInt.toNat) who).testBit thing = true := by
                     cases hb : (hasT (σc.1.2.1 st.toInt.toNat) who).testBit thing
                     · rw [hb] at e97; simp at e97; omega
                     · rfl
                   refine g_iload5 dX1_fewestGifts_113 rfl ?_
                   refine g_iconstI dX1_fewestGifts_115 rfl rfl (fun w115 h115 => ?_)
                   refine g_icmp_neI (t := 123) dX1_fewestGifts_116 (by decide) rfl (fun c116 => ?_) (fun c116 => ?_)
                   · -- 116 t
                     refine g_iincI7 dX1_fewestGifts_123 rfl rfl rfl ⟨by omega, by omega⟩ (fun w123 h123 => ?_)
                     refine g_goto (t := 45) dX1_fewestGifts_126 (by decide) ?_
                     have e1 : w123.toInt.toNat = st.toInt.toNat + 1 := by omega
                     first
                       | (have hz := hnot
                          obtain ⟨hH9, hF9⟩ := e107
                          refine ih _ (show 1000 - w123.toInt.toNat < n9 by omega) gf _ le w123 (gfold (gPer (σc.1.2.1 st.toInt.toNat) who (σc.1.2.2.1 st.toInt.toNat + 1)) (σc.1.2.1 st.toInt.toNat 0 0).toNat σc.1, σc.2) M107 rfl (by omega) (by omega) hH9.1 ⟨_, hH9.2.2.2.1, q1.2.1, hH9.2.2.2.2⟩ hfw (by omega) ?_ (frO.tr hF (frO.tr hq8.o hF9)) ?_
                          · rw [e1]
                            refine gLev.step hlev hlt ?_
                            rw [← hstp]
                            exact gfold_nb (fun _ _ => gPer_nb) _ _
                          · rw [e1]
                            show gStK who thing st.toInt.toNat (gfold _ st.toInt.toNat s0) = _
                            rw [hw, gStK, if_pos ⟨by omega, h00⟩, if_neg hz])
                       | (have hz := hyes
                          have hq : fw.toInt = -1 := by omega
                          refine ih _ (show 1000 - w123.toInt.toNat < n9 by omega) gf gf le w123 (σc.1, σc.1.2.2.1 st.toInt.toNat) M88 rfl (by omega) (by omega) hH8.1 ⟨_, hT8, q1.2.1, hTt8⟩ hstp.symm (by omega) ?_ (frO.tr hF hq8.o) ?_
                          · rw [e1]; exact gLev.step hlev hlt gNb.rf
                          · rw [e1]
                            show gStK who thing st.toInt.toNat (gfold _ st.toInt.toNat s0) = _
                            rw [hw, gStK, if_pos ⟨by omega, h00⟩, if_pos hz, if_pos (by omega)])
                       | (have hz := hyes
                          have hq : ¬ fw.toInt = -1 := by omega
                          refine ih _ (show 1000 - w123.toInt.toNat < n9 by omega) gf fw le w123 σc M88 rfl (by omega) (by omega) hH8.1 ⟨_, hT8, q1.2.1, hTt8⟩ hfw (by omega) ?_ (frO.tr hF hq8.o) ?_
                          · rw [e1]; exact gLev.step hlev hlt gNb.rf
                          · rw [e1]
                            show gStK who thing st.toInt.toNat (gfold _ st.toInt.toNat s0) = _
                            rw [hw, gStK, if_pos ⟨by omega, h00⟩, if_pos hz, if_neg (by omega)])
                   · -- 116 f
                     refine g_iload4 dX1_fewestGifts_119 rfl ?_
                     refine g_istore5 dX1_fewestGifts_121 rfl rfl ?_
                     refine g_iincI7 dX1_fewestGifts_123 rfl rfl rfl ⟨by omega, by omega⟩ (fun w123 h123 => ?_)
                     refine g_goto (t := 45) dX1_fewestGifts_126 (by decide) ?_
                     have e1 : w123.toInt.toNat = st.toInt.toNat + 1 := by omega
                     first
                       | (have hz := hnot
                          obtain ⟨hH9, hF9⟩ := e107
                          refine ih _ (show 1000 - w123.toInt.toNat < n9 by omega) gf _ le w123 (gfold (gPer (σc.1.2.1 st.toInt.toNat) who (σc.1.2.2.1 st.toInt.toNat + 1)) (σc.1.2.1 st.toInt.toNat 0 0).toNat σc.1, σc.2) M107 rfl (by omega) (by omega) hH9.1 ⟨_, hH9.2.2.2.1, q1.2.1, hH9.2.2.2.2⟩ hfw (by omega) ?_ (frO.tr hF (frO.tr hq8.o hF9)) ?_
                          · rw [e1]
                            refine gLev.step hlev hlt ?_
                            rw [← hstp]
                            exact gfold_nb (fun _ _ => gPer_nb) _ _
                          · rw [e1]
                            show gStK who thing st.toInt.toNat (gfold _ st.toInt.toNat s0) = _
                            rw [hw, gStK, if_pos ⟨by omega, h00⟩, if_neg hz])
                       | (have hz := hyes
                          have hq : fw.toInt = -1 := by omega
                          refine ih _ (show 1000 - w123.toInt.toNat < n9 by omega) gf gf le w123 (σc.1, σc.1.2.2.1 st.toInt.toNat) M88 rfl (by omega) (by omega) hH8.1 ⟨_, hT8, q1.2.1, hTt8⟩ hstp.symm (by omega) ?_ (frO.tr hF hq8.o) ?_
                          · rw [e1]; exact gLev.step hlev hlt gNb.rf
                          · rw [e1]
                            show gStK who thing st.toInt.toNat (gfold _ st.toInt.toNat s0) = _
                            rw [hw, gStK, if_pos ⟨by omega, h00⟩, if_pos hz, if_pos (by omega)])
                       | (have hz := hyes
                          have hq : ¬ fw.toInt = -1 := by omega
                          refine ih _ (show 1000 - w123.toInt.toNat < n9 by omega) gf fw le w123 σc M88 rfl (by omega) (by omega) hH8.1 ⟨_, hT8, q1.2.1, hTt8⟩ hfw (by omega) ?_ (frO.tr hF hq8.o) ?_
                          · rw [e1]; exact gLev.step hlev hlt gNb.rf
                          · rw [e1]
                            show gStK who thing st.toInt.toNat (gfold _ st.toInt.toNat s0) = _
                            rw [hw, gStK, if_pos ⟨by omega, h00⟩, if_pos hz, if_neg (by omega)])
                 · -- 100 f
                   have hnot : ¬ (hasT (σc.1.2.1 st.toInt.toNat) who).testBit thing = true := fun q => by rw [if_pos q] at e97; omega
                   refine g_aload_n0 dX1_fewestGifts_103 rfl ?_
                   refine g_iload7 dX1_fewestGifts_104 rfl ?_
                   refine g_iload_n2 dX1_fewestGifts_106 rfl ?_
                   refine g_callVv2 dX1_fewestGifts_107 rfl vX1_58 hA.1 rfl (c_spread (b := σc.1.2.2.1 st.toInt.toNat + 1) hA q1.1 q1.2.1 (k := st.toInt.toNat) (by omega) hwI hH8) (g_rm (by omega)) (Nat.le_of_ble_eq_true rfl) (fun M107 e107 => ?_)
                   refine g_goto (t := 123) dX1_fewestGifts_110 (by decide) ?_
                   refine g_iincI7 dX1_fewestGifts_123 rfl rfl rfl ⟨by omega, by omega⟩ (fun w123 h123 => ?_)
                   refine g_goto (t := 45) dX1_fewestGifts_126 (by decide) ?_
                   have e1 : w123.toInt.toNat = st.toInt.toNat + 1 := by omega
                   first
                     | (have hz := hnot
                        obtain ⟨hH9, hF9⟩ := e107
                        refine ih _ (show 1000 - w123.toInt.toNat < n9 by omega) gf _ le w123 (gfold (gPer (σc.1.2.1 st.toInt.toNat) who (σc.1.2.2.1 st.toInt.toNat + 1)) (σc.1.2.1 st.toInt.toNat 0 0).toNat σc.1, σc.2) M107 rfl (by omega) (by omega) hH9.1 ⟨_, hH9.2.2.2.1, q1.2.1, hH9.2.2.2.2⟩ hfw (by omega) ?_ (frO.tr hF (frO.tr hq8.o hF9)) ?_
                        · rw [e1]
                          refine gLev.step hlev hlt ?_
                          rw [← hstp]
                          exact gfold_nb (fun _ _ => gPer_nb) _ _
                        · rw [e1]
                          show gStK who thing st.toInt.toNat (gfold _ st.toInt.toNat s0) = _
                          rw [hw, gStK, if_pos ⟨by omega, h00⟩, if_neg hz])
                     | (have hz := hyes
                        have hq : fw.toInt = -1 := by omega
                        refine ih _ (show 1000 - w123.toInt.toNat < n9 by omega) gf gf le w123 (σc.1, σc.1.2.2.1 st.toInt.toNat) M88 rfl (by omega) (by omega) hH8.1 ⟨_, hT8, q1.2.1, hTt8⟩ hstp.symm (by omega) ?_ (frO.tr hF hq8.o) ?_
                        · rw [e1]; exact gLev.step hlev hlt gNb.rf
                        · rw [e1]
                          show gStK who thing st.toInt.toNat (gfold _ st.toInt.toNat s0) = _
                          rw [hw, gStK, if_pos ⟨by omega, h00⟩, if_pos hz, if_pos (by omega)])
                     | (have hz := hyes
                        have hq : ¬ fw.toInt = -1 := by omega
                        refine ih _ (show 1000 - w123.toInt.toNat < n9 by omega) gf fw le w123 σc M88 rfl (by omega) (by omega) hH8.1 ⟨_, hT8, q1.2.1, hTt8⟩ hfw (by omega) ?_ (frO.tr hF hq8.o) ?_
                        · rw [e1]; exact gLev.step hlev hlt gNb.rf
                        · rw [e1]
                          show gStK who thing st.toInt.toNat (gfold _ st.toInt.toNat s0) = _
                          rw [hw, gStK, if_pos ⟨by omega, h00⟩, if_pos hz, if_neg (by omega)]))
              | (have hlev := gLev.on hlev0 (by omega) (by omega)
                 have hlt : st.toInt.toNat < σc.1.1 := by omega
                 rw [← h76] at hlev
                 rw [show σc.1.1 = (M.1 250 4).toInt.toNat by omega] at hlev hlt
                 refine g_aload_n0 dX1_fewestGifts_85 rfl ?_
                 refine g_iload7 dX1_fewestGifts_86 rfl ?_
                 refine g_callVv1 dX1_fewestGifts_88 rfl vX1_50 hA.1 rfl (c_load (k := st.toInt.toNat) (Tk := σc.1.2.1 st.toInt.toNat) (T := Tc) hA q1.1.1 (TX.two hXc q1.2.1) (by omega) (by omega) hTc q1.2.2) (g_rm (by omega)) (Nat.le_of_ble_eq_true rfl) (fun M88 e88 => ?_)
                 obtain ⟨hq8, hT8⟩ := e88
                 have hTt8 : TBt M88 200 := frO.tbt hq8.o hTt
                 have hB8 : TB M88 200 := TB.of (by rw [hT8]; exact q1.1.1) hTt8
                 have hH8 : GH T0 (σc.1.2.1 st.toInt.toNat) st.toInt.toNat σc.1 M88 := ⟨GC.q hG hq8, by omega, rfl, hT8, hTt8⟩
                 have hstp : σc.1.2.2.1 st.toInt.toNat = w76.toInt := hlev.2.2.1 st.toInt.toNat (Nat.le_refl _) hlt
                 refine g_aload_n0 dX1_fewestGifts_91 rfl ?_
                 refine g_getr dX1_fewestGifts_92 rfl fX1_25 hA.1 rfl ?_
                 refine g_iload_n2 dX1_fewestGifts_95 rfl ?_
                 refine g_iload_n3 dX1_fewestGifts_96 rfl ?_
                 refine g_callVi2 dX1_fewestGifts_97 rfl vX1_54 hA.2.2.2.2.1 rfl (c_holds hA.2.2.2.2 hB8 (by omega) (by omega)) (g_rm (by omega)) (Nat.le_of_ble_eq_true rfl) (fun z97 M97 e97 => ?_)
                 obtain ⟨hMM, e97⟩ := e97
                 subst M97
                 rw [show wI.toInt.toNat = who by omega, show iI.toInt.toNat = thing by omega, v_has hB8 (by omega), hT8] at e97
                 refine g_if_neI (t := 113) dX1_fewestGifts_100 (by decide) rfl (fun c100 => ?_) (fun c100 => ?_)
                 · -- 100 t
                   have hyes : (hasT (σc.1.2.1 st.toInt.toNat) who).testBit thing = true := by
                     cases hb : (hasT (σc.1.2.1 st.toInt.toNat) who).testBit thing
                     · rw [hb] at e97; simp at e97; omega
                     · rfl
                   refine g_iload5 dX1_fewestGifts_113 rfl ?_
                   refine g_iconstI dX1_fewestGifts_115 rfl rfl (fun w115 h115 => ?_)
                   refine g_icmp_neI (t := 123) dX1_fewestGifts_116 (by decide) rfl (fun c116 => ?_) (fun c116 => ?_)
                   · -- 116 t
                     refine g_iincI7 dX1_fewestGifts_123 rfl rfl rfl ⟨by omega, by omega⟩ (fun w123 h123 => ?_)
                     refine g_goto (t := 45) dX1_fewestGifts_126 (by decide) ?_
                     have e1 : w123.toInt.toNat = st.toInt.toNat + 1 := by omega
                     first
                       | (have hz := hnot
                          obtain ⟨hH9, hF9⟩ := e107
                          refine ih _ (show 1000 - w123.toInt.toNat < n9 by omega) w76 _ (M.1 250 4) w123 (gfold (gPer (σc.1.2.1 st.toInt.toNat) who (σc.1.2.2.1 st.toInt.toNat + 1)) (σc.1.2.1 st.toInt.toNat 0 0).toNat σc.1, σc.2) M107 rfl (by omega) (by omega) hH9.1 ⟨_, hH9.2.2.2.1, q1.2.1, hH9.2.2.2.2⟩ hfw (by omega) ?_ (frO.tr hF (frO.tr hq8.o hF9)) ?_
                          · rw [e1]
                            refine gLev.step hlev hlt ?_
                            rw [← hstp]
                            exact gfold_nb (fun _ _ => gPer_nb) _ _
                          · rw [e1]
                            show gStK who thing st.toInt.toNat (gfold _ st.toInt.toNat s0) = _
                            rw [hw, gStK, if_pos ⟨by omega, h00⟩, if_neg hz])
                       | (have hz := hyes
                          have hq : fw.toInt = -1 := by omega
                          refine ih _ (show 1000 - w123.toInt.toNat < n9 by omega) w76 w76 (M.1 250 4) w123 (σc.1, σc.1.2.2.1 st.toInt.toNat) M88 rfl (by omega) (by omega) hH8.1 ⟨_, hT8, q1.2.1, hTt8⟩ hstp.symm (by omega) ?_ (frO.tr hF hq8.o) ?_
                          · rw [e1]; exact gLev.step hlev hlt gNb.rf
                          · rw [e1]
                            show gStK who thing st.toInt.toNat (gfold _ st.toInt.toNat s0) = _
                            rw [hw, gStK, if_pos ⟨by omega, h00⟩, if_pos hz, if_pos (by omega)])
                       | (have hz := hyes
                          have hq : ¬ fw.toInt = -1 := by omega
                          refine ih _ (show 1000 - w123.toInt.toNat < n9 by omega) w76 fw (M.1 250 4) w123 σc M88 rfl (by omega) (by omega) hH8.1 ⟨_, hT8, q1.2.1, hTt8⟩ hfw (by omega) ?_ (frO.tr hF hq8.o) ?_
                          · rw [e1]; exact gLev.step hlev hlt gNb.rf
                          · rw [e1]
                            show gStK who thing st.toInt.toNat (gfold _ st.toInt.toNat s0) = _
                            rw [hw, gStK, if_pos ⟨by omega, h00⟩, if_pos hz, if_neg (by omega)])
                   · -- 116 f
                     refine g_iload4 dX1_fewestGifts_119 rfl ?_
                     refine g_istore5 dX1_fewestGifts_121 rfl rfl ?_
                     refine g_iincI7 dX1_fewestGifts_123 rfl rfl rfl ⟨by omega, by omega⟩ (fun w123 h123 => ?_)
                     refine g_goto (t := 45) dX1_fewestGifts_126 (by decide) ?_
                     have e1 : w123.toInt.toNat = st.toInt.toNat + 1 := by omega
                     first
                       | (have hz := hnot
                          obtain ⟨hH9, hF9⟩ := e107
                          refine ih _ (show 1000 - w123.toInt.toNat < n9 by omega) w76 _ (M.1 250 4) w123 (gfold (gPer (σc.1.2.1 st.toInt.toNat) who (σc.1.2.2.1 st.toInt.toNat + 1)) (σc.1.2.1 st.toInt.toNat 0 0).toNat σc.1, σc.2) M107 rfl (by omega) (by omega) hH9.1 ⟨_, hH9.2.2.2.1, q1.2.1, hH9.2.2.2.2⟩ hfw (by omega) ?_ (frO.tr hF (frO.tr hq8.o hF9)) ?_
                          · rw [e1]
                            refine gLev.step hlev hlt ?_
                            rw [← hstp]
                            exact gfold_nb (fun _ _ => gPer_nb) _ _
                          · rw [e1]
                            show gStK who thing st.toInt.toNat (gfold _ st.toInt.toNat s0) = _
                            rw [hw, gStK, if_pos ⟨by omega, h00⟩, if_neg hz])
                       | (have hz := hyes
                          have hq : fw.toInt = -1 := by omega
                          refine ih _ (show 1000 - w123.toInt.toNat < n9 by omega) w76 w76 (M.1 250 4) w123 (σc.1, σc.1.2.2.1 st.toInt.toNat) M88 rfl (by omega) (by omega) hH8.1 ⟨_, hT8, q1.2.1, hTt8⟩ hstp.symm (by omega) ?_ (frO.tr hF hq8.o) ?_
                          · rw [e1]; exact gLev.step hlev hlt gNb.rf
                          · rw [e1]
                            show gStK who thing st.toInt.toNat (gfold _ st.toInt.toNat s0) = _
                            rw [hw, gStK, if_pos ⟨by omega, h00⟩, if_pos hz, if_pos (by omega)])
                       | (have hz := hyes
                          have hq : ¬ fw.toInt = -1 := by omega
                          refine ih _ (show 1000 - w123.toInt.toNat < n9 by omega) w76 fw (M.1 250 4) w123 σc M88 rfl (by omega) (by omega) hH8.1 ⟨_, hT8, q1.2.1, hTt8⟩ hfw (by omega) ?_ (frO.tr hF hq8.o) ?_
                          · rw [e1]; exact gLev.step hlev hlt gNb.rf
                          · rw [e1]
                            show gStK who thing st.toInt.toNat (gfold _ st.toInt.toNat s0) = _
                            rw [hw, gStK, if_pos ⟨by omega, h00⟩, if_pos hz, if_neg (by omega)])
                 · -- 100 f
                   have hnot : ¬ (hasT (σc.1.2.1 st.toInt.toNat) who).testBit thing = true := fun q => by rw [if_pos q] at e97; omega
                   refine g_aload_n0 dX1_fewestGifts_103 rfl ?_
                   refine g_iload7 dX1_fewestGifts_104 rfl ?_
                   refine g_iload_n2 dX1_fewestGifts_106 rfl ?_
                   refine g_callVv2 dX1_fewestGifts_107 rfl vX1_58 hA.1 rfl (c_spread (b := σc.1.2.2.1 st.toInt.toNat + 1) hA q1.1 q1.2.1 (k := st.toInt.toNat) (by omega) hwI hH8) (g_rm (by omega)) (Nat.le_of_ble_eq_true rfl) (fun M107 e107 => ?_)
                   refine g_goto (t := 123) dX1_fewestGifts_110 (by decide) ?_
                   refine g_iincI7 dX1_fewestGifts_123 rfl rfl rfl ⟨by omega, by omega⟩ (fun w123 h123 => ?_)
                   refine g_goto (t := 45) dX1_fewestGifts_126 (by decide) ?_
                   have e1 : w123.toInt.toNat = st.toInt.toNat + 1 := by omega
                   first
                     | (have hz := hnot
                        obtain ⟨hH9, hF9⟩ := e107
                        refine ih _ (show 1000 - w123.toInt.toNat < n9 by omega) w76 _ (M.1 250 4) w123 (gfold (gPer (σc.1.2.1 st.toInt.toNat) who (σc.1.2.2.1 st.toInt.toNat + 1)) (σc.1.2.1 st.toInt.toNat 0 0).toNat σc.1, σc.2) M107 rfl (by omega) (by omega) hH9.1 ⟨_, hH9.2.2.2.1, q1.2.1, hH9.2.2.2.2⟩ hfw (by omega) ?_ (frO.tr hF (frO.tr hq8.o hF9)) ?_
                        · rw [e1]
                          refine gLev.step hlev hlt ?_
                          rw [← hstp]
                          exact gfold_nb (fun _ _ => gPer_nb) _ _
                        · rw [e1]
                          show gStK who thing st.toInt.toNat (gfold _ st.toInt.toNat s0) = _
                          rw [hw, gStK, if_pos ⟨by omega, h00⟩, if_neg hz])
                     | (have hz := hyes
                        have hq : fw.toInt = -1 := by omega
                        refine ih _ (show 1000 - w123.toInt.toNat < n9 by omega) w76 w76 (M.1 250 4) w123 (σc.1, σc.1.2.2.1 st.toInt.toNat) M88 rfl (by omega) (by omega) hH8.1 ⟨_, hT8, q1.2.1, hTt8⟩ hstp.symm (by omega) ?_ (frO.tr hF hq8.o) ?_
                        · rw [e1]; exact gLev.step hlev hlt gNb.rf
                        · rw [e1]
                          show gStK who thing st.toInt.toNat (gfold _ st.toInt.toNat s0) = _
                          rw [hw, gStK, if_pos ⟨by omega, h00⟩, if_pos hz, if_pos (by omega)])
                     | (have hz := hyes
                        have hq : ¬ fw.toInt = -1 := by omega
                        refine ih _ (show 1000 - w123.toInt.toNat < n9 by omega) w76 fw (M.1 250 4) w123 σc M88 rfl (by omega) (by omega) hH8.1 ⟨_, hT8, q1.2.1, hTt8⟩ hfw (by omega) ?_ (frO.tr hF hq8.o) ?_
                        · rw [e1]; exact gLev.step hlev hlt gNb.rf
                        · rw [e1]
                          show gStK who thing st.toInt.toNat (gfold _ st.toInt.toNat s0) = _
                          rw [hw, gStK, if_pos ⟨by omega, h00⟩, if_pos hz, if_neg (by omega)]))
