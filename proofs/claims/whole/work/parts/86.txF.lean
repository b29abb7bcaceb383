set_option maxHeartbeats 1200000 in
theorem r_readOwes {Γ : gW} {M : gM} {t : Nat → Int} {n : Nat} {T : gTw} {e : Nat} (hR : g_Ref Γ) (hH : HTx t n M) (hD : RD t n (.inr e) M) (hP : RP T M) (hV : PIV T)  : Ct Γ yX6_readOwes μX6_readOwes 6 [.ref 300] M (g_qv (fun M1 => RDP t n (pOwe t n T e) M1 ∧ frP M M1)) := by
  have b0 := hV.1.1
  have b1 := hV.1.2.1
  have x7 := hH.2.1
  obtain ⟨d1, d2, d3, d4, d5, d6, -⟩ := id hD
  have d8 := tk_rng (t := t) d2
  refine g_enter rfl rfl rfl (Nat.le_of_ble_eq_true rfl) ?_
  show G Γ _ _ _ _ 0 [some (.ref 300), none, none] [] M
  refine g_aload_n0 dX6_readOwes_0 rfl ?_
  refine g_callVi0 dX6_readOwes_1 rfl vX6_199 hR.1 rfl (r_personNow hR hH hD hP.1) (g_rm (by omega)) (Nat.le_of_ble_eq_true rfl) (fun z1 M1 e1 => ?_)
  refine g_istore_n1 dX6_readOwes_4 rfl rfl ?_
  refine g_aload_n0 dX6_readOwes_5 rfl ?_
  refine g_geti dX6_readOwes_6 rfl fX6_174 hR.1 rfl ?_
  refine g_if_neI (t := 29) dX6_readOwes_9 (by decide) rfl (fun c9 => ?_) (fun c9 => ?_)
  · -- 9 t
    obtain ⟨q, hpq, hbq, hfq⟩ : ∃ q, pPer t n e (T 0 0) = .inl q ∧ RD t n (.inl q) M1 ∧ frT M M1 := by
      rcases e1 with ⟨q, hq, -⟩ | ⟨e9, hq, ⟨q, h1, h2, h3, -⟩ | ⟨v9, e9b, h1, h2, h3⟩⟩
      · cases hq
      · cases hq; exact ⟨q, h1, h2, h3⟩
      · rw [h2] at c9; exact absurd d1 c9
    clear e1
    refine g_aload_n0 dX6_readOwes_29 rfl ?_
    refine g_geti dX6_readOwes_30 rfl fX6_174 hR.1 rfl ?_
    refine g_if_eqI (t := 37) dX6_readOwes_33 (by decide) rfl (fun c33 => ?_) (fun c33 => ?_)
    · -- 33 t
      first
        | (exfalso; have hz : (M26.1 300 21).toInt = 4 := e26.1.1; omega)
        | (exfalso; have hz := hbq.1; have hz2 := hbq.2.1; omega)
        | (refine g_aload_n0 dX6_readOwes_37 rfl ?_
           refine g_callVv0 dX6_readOwes_38 rfl vX6_192 hR.1 rfl (r_stepOn hR hH d8.2.2.1 d3) (g_rm (by omega)) (Nat.le_of_ble_eq_true rfl) (fun M38 e38 => ?_)
           have hH2 := hH.s e38.1
           have hD2 := RD.s e38.1 d1 d8.2.2.1 e38.2
           have hP2 := hP.t e38.1.t
           have hF2 := e38.1.t.p
           refine g_aload_n0 dX6_readOwes_41 rfl ?_
           refine g_getr dX6_readOwes_42 rfl fX6_44 hR.1 rfl ?_
           refine g_bipushI dX6_readOwes_45 rfl rfl (fun w45 h45 => ?_)
           refine g_iload_n1 dX6_readOwes_47 rfl ?_
           refine g_iaddI dX6_readOwes_48 rfl ⟨by omega, by omega⟩ (fun w48 h48 => ?_)
           refine g_aload_n0 dX6_readOwes_49 rfl ?_
           refine g_iconstI dX6_readOwes_50 rfl rfl (fun w50 h50 => ?_)
           refine g_sipushI dX6_readOwes_51 rfl rfl (fun w51 h51 => ?_)
           refine g_callVi2 dX6_readOwes_54 rfl vX6_207 hR.1 rfl (r_readNumber (ρ := pRho (α := Unit) (.inr ((), tkE t n e))) hR hH2 hD2) (g_rm (by omega)) (Nat.le_of_ble_eq_true rfl) (fun z54 M54 e54 => ?_)
           rw [h50, h51] at e54
           obtain ⟨hDb, fb, zbv⟩ := nx_num (X := (.inr ((), tkE t n e) : pR Unit)) hD2 e54
           replace hDb : RD t n (pRho (pNum t n (tkE t n e) 1 999)) M54 := hDb
           replace zbv : ∀ v e1, (pNum t n (tkE t n e) 1 999) = .inr (v, e1) → z54.toInt = v := zbv
           clear e54
           have hPb := hP2.t fb
           have hFb := frP.tr hF2 fb.p
           refine g_iastI dX6_readOwes_57 rfl (rf_read hR) ⟨by omega, by omega⟩ ?_
           rw [show w48.toInt.toNat = 18 + p0.toNat by omega]
           obtain ⟨M3, hM3⟩ : ∃ M3, M3 = g_u M54 408 (18 + p0.toNat) z54 := ⟨_, rfl⟩
           refine g_fwd (M1 := M3) ?_ hM3
           have hP3 : RP (upT T 4 p0.toNat z54.toInt) M3 := by rw [hM3]; exact RP.owe hPb hV (by omega)
           have hF3 : frP M M3 := by rw [hM3]; exact frP.tr hFb (frP.u (by omega))
           have hH3 := hH.p hF3
           have hD3 : RD t n (pRho (pNum t n (tkE t n e) 1 999)) M3 := by rw [hM3]; exact RD.u hDb (by decide)
           clear hM3
           refine g_aload_n0 dX6_readOwes_58 rfl ?_
           refine g_ldcS (c := 27) dX6_readOwes_59 rfl rfl ?_
           refine g_callVi1 dX6_readOwes_61 rfl vX6_204 hR.1 rfl (r_passes (c := 27) hR hH3 hD3 rfl) (g_rm (by omega)) (Nat.le_of_ble_eq_true rfl) (fun z61 M61 e61 => ?_)
           refine g_if_neI (t := 68) dX6_readOwes_64 (by decide) rfl (fun c64 => ?_) (fun c64 => ?_)
           · -- 64 t
             obtain ⟨e2, hpe2, hyw, hD4, hf4⟩ : ∃ e2, pRho (pNum t n (tkE t n e) 1 999) = .inr e2 ∧ isW t n e2 w_to ∧ RD t n (.inr (tkE t n e2)) M61 ∧ frT M3 M61 := by
               rcases e61 with ⟨e9, h1, h2, h3, h4, h5⟩ | ⟨h1, h2, h3⟩
               · exact ⟨e9, h1, h2, h4, h5⟩
               · omega
             clear e61
             obtain ⟨v, hv1⟩ : ∃ v, (pNum t n (tkE t n e) 1 999) = .inr (v, e2) := by
               cases hx : (pNum t n (tkE t n e) 1 999) with
               | inl q => rw [hx] at hpe2; cases hpe2
               | inr y => obtain ⟨v, e9⟩ := y; rw [hx] at hpe2; cases hpe2; exact ⟨v, rfl⟩
             have hzv4 := zbv v e2 hv1
             have hvo := pNum_ok hv1
             rw [hzv4] at hP3
             have hV1 := PIV.owe hV (p := p0.toNat) (v := v) (by omega) ⟨hvo.1, hvo.2.1⟩
             have q00 : upT T 4 p0.toNat v 0 0 = T 0 0 := by simp [upT]
             have hP4 := hP3.t hf4
             have hF4 := frP.tr hF3 hf4.p
             have hH4 := hH.p hF4
             have heq2 : pOwe t n T e = pBd (pPer t n (tkE t n e2) (T 0 0)) (fun q e3 => if q = p0 then .inl (4, tkB t n (tkE t n e2)) else .inr (upT (upT T 4 p0.toNat v) 5 p0.toNat q, e3)) := by
               rw [heq, hv1]
               show pIf t n e2 w_to _ _ = _
               rw [pIf_pos hyw]
             refine g_aload_n0 dX6_readOwes_68 rfl ?_
             refine g_callVi0 dX6_readOwes_69 rfl vX6_199 hR.1 rfl (r_personNow hR hH4 hD4 hP4.1) (g_rm (by omega)) (Nat.le_of_ble_eq_true rfl) (fun z69 M69 e69 => ?_)
             refine g_istore_n2 dX6_readOwes_72 rfl rfl ?_
             refine g_aload_n0 dX6_readOwes_73 rfl ?_
             refine g_geti dX6_readOwes_74 rfl fX6_174 hR.1 rfl ?_
             refine g_if_neI (t := 90) dX6_readOwes_77 (by decide) rfl (fun c77 => ?_) (fun c77 => ?_)
             · -- 77 t
               obtain ⟨q, hpq, hbq, hfq⟩ : ∃ q, pPer t n (tkE t n e2) (T 0 0) = .inl q ∧ RD t n (.inl q) M69 ∧ frT M61 M69 := by
                 rcases e69 with ⟨q, hq, -⟩ | ⟨e9, hq, ⟨q, h1, h2, h3, -⟩ | ⟨v9, e9b, h1, h2, h3⟩⟩
                 · cases hq
                 · cases hq; rw [q00] at h1; exact ⟨q, h1, h2, h3⟩
                 · cases hq; rw [h2] at c77; exact absurd hD4.1 c77
               clear e69
               have hF9 := frP.tr hF4 hfq.p
               have hfin : RDP t n (.inl q) (g_u M69 408 (24 + p0.toNat) z69) := RD.u hbq (by decide)
               have heq3 : pOwe t n T e = .inl q := by
                 rw [heq2, hpq]; rfl
               refine g_aload_n0 dX6_readOwes_90 rfl ?_
               refine g_geti dX6_readOwes_91 rfl fX6_174 hR.1 rfl ?_
               refine g_if_neI (t := 101) dX6_readOwes_94 (by decide) rfl (fun c94 => ?_) (fun c94 => ?_)
               · -- 94 t
                 first
                   | (have hz := hfin
                      refine g_aload_n0 dX6_readOwes_101 rfl ?_
                      refine g_getr dX6_readOwes_102 rfl fX6_44 hR.1 rfl ?_
                      refine g_bipushI dX6_readOwes_105 rfl rfl (fun w105 h105 => ?_)
                      refine g_iload_n1 dX6_readOwes_107 rfl ?_
                      refine g_iaddI dX6_readOwes_108 rfl ⟨by omega, by omega⟩ (fun w108 h108 => ?_)
                      refine g_iload_n2 dX6_readOwes_109 rfl ?_
                      refine g_iastI dX6_readOwes_110 rfl (rf_read hR) ⟨by omega, by omega⟩ ?_
                      rw [show w108.toInt.toNat = 24 + p0.toNat by omega]
                      refine g_vret dX6_readOwes_111 rfl ?_
                      refine ⟨rfl, ?_, frP.tr hF9 (frP.u (by omega))⟩
                      rw [heq3]
                      exact hfin)
                   | (have hz := e87
                      have hF9 := frP.tr hF4 e87.2.1.p
                      have hfin : RDP t n (.inl (4, tkB t n (tkE t n e2))) (g_u M87 408 (24 + p0.toNat) z69) := RD.u e87.1 (by decide)
                      refine g_aload_n0 dX6_readOwes_101 rfl ?_
                      refine g_getr dX6_readOwes_102 rfl fX6_44 hR.1 rfl ?_
                      refine g_bipushI dX6_readOwes_105 rfl rfl (fun w105 h105 => ?_)
                      refine g_iload_n1 dX6_readOwes_107 rfl ?_
                      refine g_iaddI dX6_readOwes_108 rfl ⟨by omega, by omega⟩ (fun w108 h108 => ?_)
                      refine g_iload_n2 dX6_readOwes_109 rfl ?_
                      refine g_iastI dX6_readOwes_110 rfl (rf_read hR) ⟨by omega, by omega⟩ ?_
                      rw [show w108.toInt.toNat = 24 + p0.toNat by omega]
                      refine g_vret dX6_readOwes_111 rfl ?_
                      refine ⟨rfl, ?_, frP.tr hF9 (frP.u (by omega))⟩
                      rw [heq3]
                      exact hfin)
                   | (exfalso; have hz := dd1; omega)
               · -- 94 f
                 first
                   | (exfalso; have hz : (M87.1 300 21).toInt = 4 := e87.1.1; omega)
                   | (exfalso; have hz := hbq.1; have hz2 := hbq.2.1; omega)
                   | (refine g_aload_n0 dX6_readOwes_97 rfl ?_
                      refine g_callVv0 dX6_readOwes_98 rfl vX6_192 hR.1 rfl (r_stepOn hR hH4 dd8.2.2.1 dd3) (g_rm (by omega)) (Nat.le_of_ble_eq_true rfl) (fun M98 e98 => ?_)
                      have hF9 := frP.tr hF4 e98.1.t.p
                      have hfin : RDP t n (.inr (upT (upT T 4 p0.toNat v) 5 p0.toNat z69.toInt, e9)) (g_u M98 408 (24 + p0.toNat) z69) := ⟨RD.u (by rw [hpo.2.2.1]; exact RD.s e98.1 dd1 dd8.2.2.1 e98.2) (by decide), RP.oweTo (hP4.t e98.1.t) hV1 (by rw [q00]; omega)⟩
                      refine g_aload_n0 dX6_readOwes_101 rfl ?_
                      refine g_getr dX6_readOwes_102 rfl fX6_44 hR.1 rfl ?_
                      refine g_bipushI dX6_readOwes_105 rfl rfl (fun w105 h105 => ?_)
                      refine g_iload_n1 dX6_readOwes_107 rfl ?_
                      refine g_iaddI dX6_readOwes_108 rfl ⟨by omega, by omega⟩ (fun w108 h108 => ?_)
                      refine g_iload_n2 dX6_readOwes_109 rfl ?_
                      refine g_iastI dX6_readOwes_110 rfl (rf_read hR) ⟨by omega, by omega⟩ ?_
                      rw [show w108.toInt.toNat = 24 + p0.toNat by omega]
                      refine g_vret dX6_readOwes_111 rfl ?_
                      refine ⟨rfl, ?_, frP.tr hF9 (frP.u (by omega))⟩
                      rw [heq3]
                      exact hfin)
             · -- 77 f
               obtain ⟨v9, e9, hpv, rfl, hzv⟩ : ∃ v9 e9, pPer t n (tkE t n e2) (T 0 0) = .inr (v9, e9) ∧ M69 = M61 ∧ z69.toInt = v9 := by
                 rcases e69 with ⟨q, hq, -⟩ | ⟨e9, hq, ⟨q, h1, h2, h3, -⟩ | ⟨v9, e9b, h1, h2, h3⟩⟩
                 · cases hq
                 · exact absurd c77 (by have := h2.1; have := h2.2.1; omega)
                 · cases hq; rw [q00] at h1; exact ⟨v9, e9b, h1, h2, h3⟩
               have hpo := pPer_ok hpv
               have hD5 := hD4
               clear e69
               obtain ⟨dd1, dd2, dd3, dd4, dd5, dd6, -⟩ := id hD4
               have dd8 := tk_rng (t := t) dd2
               refine g_iload_n2 dX6_readOwes_80 rfl ?_
               refine g_iload_n1 dX6_readOwes_81 rfl ?_
               refine g_icmp_neI (t := 90) dX6_readOwes_82 (by decide) rfl (fun c82 => ?_) (fun c82 => ?_)
               · -- 82 t
                 have heq3 : pOwe t n T e = .inr (upT (upT T 4 p0.toNat v) 5 p0.toNat z69.toInt, e9) := by
                   rw [heq2, hpv]
                   show (if v9 = p0 then _ else _) = _
                   rw [if_neg (by omega), hzv]
                 refine g_aload_n0 dX6_readOwes_90 rfl ?_
                 refine g_geti dX6_readOwes_91 rfl fX6_174 hR.1 rfl ?_
                 refine g_if_neI (t := 101) dX6_readOwes_94 (by decide) rfl (fun c94 => ?_) (fun c94 => ?_)
                 · -- 94 t
                   first
                     | (have hz := hfin
                        refine g_aload_n0 dX6_readOwes_101 rfl ?_
                        refine g_getr dX6_readOwes_102 rfl fX6_44 hR.1 rfl ?_
                        refine g_bipushI dX6_readOwes_105 rfl rfl (fun w105 h105 => ?_)
                        refine g_iload_n1 dX6_readOwes_107 rfl ?_
                        refine g_iaddI dX6_readOwes_108 rfl ⟨by omega, by omega⟩ (fun w108 h108 => ?_)
                        refine g_iload_n2 dX6_readOwes_109 rfl ?_
                        refine g_iastI dX6_readOwes_110 rfl (rf_read hR) ⟨by omega, by omega⟩ ?_
                        rw [show w108.toInt.toNat = 24 + p0.toNat by omega]
                        refine g_vret dX6_readOwes_111 rfl ?_
                        refine ⟨rfl, ?_, frP.tr hF9 (frP.u (by omega))⟩
                        rw [heq3]
                        exact hfin)
                     | (have hz := e87
                        have hF9 := frP.tr hF4 e87.2.1.p
                        have hfin : RDP t n (.inl (4, tkB t n (tkE t n e2))) (g_u M87 408 (24 + p0.toNat) z69) := RD.u e87.1 (by decide)
                        refine g_aload_n0 dX6_readOwes_101 rfl ?_
                        refine g_getr dX6_readOwes_102 rfl fX6_44 hR.1 rfl ?_
                        refine g_bipushI dX6_readOwes_105 rfl rfl (fun w105 h105 => ?_)
                        refine g_iload_n1 dX6_readOwes_107 rfl ?_
                        refine g_iaddI dX6_readOwes_108 rfl ⟨by omega, by omega⟩ (fun w108 h108 => ?_)
                        refine g_iload_n2 dX6_readOwes_109 rfl ?_
                        refine g_iastI dX6_readOwes_110 rfl (rf_read hR) ⟨by omega, by omega⟩ ?_
                        rw [show w108.toInt.toNat = 24 + p0.toNat by omega]
                        refine g_vret dX6_readOwes_111 rfl ?_
                        refine ⟨rfl, ?_, frP.tr hF9 (frP.u (by omega))⟩
                        rw [heq3]
                        exact hfin)
                     | (exfalso; have hz := dd1; omega)
                 · -- 94 f
                   first
                     | (exfalso; have hz : (M87.1 300 21).toInt = 4 := e87.1.1; omega)
                     | (exfalso; have hz := hbq.1; have hz2 := hbq.2.1; omega)
                     | (refine g_aload_n0 dX6_readOwes_97 rfl ?_
                        refine g_callVv0 dX6_readOwes_98 rfl vX6_192 hR.1 rfl (r_stepOn hR hH4 dd8.2.2.1 dd3) (g_rm (by omega)) (Nat.le_of_ble_eq_true rfl) (fun M98 e98 => ?_)
                        have hF9 := frP.tr hF4 e98.1.t.p
                        have hfin : RDP t n (.inr (upT (upT T 4 p0.toNat v) 5 p0.toNat z69.toInt, e9)) (g_u M98 408 (24 + p0.toNat) z69) := ⟨RD.u (by rw [hpo.2.2.1]; exact RD.s e98.1 dd1 dd8.2.2.1 e98.2) (by decide), RP.oweTo (hP4.t e98.1.t) hV1 (by rw [q00]; omega)⟩
                        refine g_aload_n0 dX6_readOwes_101 rfl ?_
                        refine g_getr dX6_readOwes_102 rfl fX6_44 hR.1 rfl ?_
                        refine g_bipushI dX6_readOwes_105 rfl rfl (fun w105 h105 => ?_)
                        refine g_iload_n1 dX6_readOwes_107 rfl ?_
                        refine g_iaddI dX6_readOwes_108 rfl ⟨by omega, by omega⟩ (fun w108 h108 => ?_)
                        refine g_iload_n2 dX6_readOwes_109 rfl ?_
                        refine g_iastI dX6_readOwes_110 rfl (rf_read hR) ⟨by omega, by omega⟩ ?_
                        rw [show w108.toInt.toNat = 24 + p0.toNat by omega]
                        refine g_vret dX6_readOwes_111 rfl ?_
                        refine ⟨rfl, ?_, frP.tr hF9 (frP.u (by omega))⟩
                        rw [heq3]
                        exact hfin)
               · -- 82 f
                 have heq3 : pOwe t n T e = .inl (4, tkB t n (tkE t n e2)) := by
                   rw [heq2, hpv]
                   show (if v9 = p0 then _ else _) = _
                   rw [if_pos (by omega)]
                 refine g_aload_n0 dX6_readOwes_85 rfl ?_
                 refine g_iconstI dX6_readOwes_86 rfl rfl (fun w86 h86 => ?_)
                 refine g_callVv1 dX6_readOwes_87 rfl vX6_195 hR.1 rfl (r_wrong hR hD5 (by omega)) (g_rm (by omega)) (Nat.le_of_ble_eq_true rfl) (fun M87 e87 => ?_)
                 rw [h86] at e87
                 refine g_aload_n0 dX6_readOwes_90 rfl ?_
                 refine g_geti dX6_readOwes_91 rfl fX6_174 hR.1 rfl ?_
                 refine g_if_neI (t := 101) dX6_readOwes_94 (by decide) rfl (fun c94 => ?_) (fun c94 => ?_)
                 · -- 94 t
                   first
                     | (have hz := hfin
                        refine g_aload_n0 dX6_readOwes_101 rfl ?_
                        refine g_getr dX6_readOwes_102 rfl fX6_44 hR.1 rfl ?_
                        refine g_bipushI dX6_readOwes_105 rfl rfl (fun w105 h105 => ?_)
                        refine g_iload_n1 dX6_readOwes_107 rfl ?_
                        refine g_iaddI dX6_readOwes_108 rfl ⟨by omega, by omega⟩ (fun w108 h108 => ?_)
                        refine g_iload_n2 dX6_readOwes_109 rfl ?_
                        refine g_iastI dX6_readOwes_110 rfl (rf_read hR) ⟨by omega, by omega⟩ ?_
                        rw [show w108.toInt.toNat = 24 + p0.toNat by omega]
                        refine g_vret dX6_readOwes_111 rfl ?_
                        refine ⟨rfl, ?_, frP.tr hF9 (frP.u (by omega))⟩
                        rw [heq3]
                        exact hfin)
                     | (have hz := e87
                        have hF9 := frP.tr hF4 e87.2.1.p
                        have hfin : RDP t n (.inl (4, tkB t n (tkE t n e2))) (g_u M87 408 (24 + p0.toNat) z69) := RD.u e87.1 (by decide)
                        refine g_aload_n0 dX6_readOwes_101 rfl ?_
                        refine g_getr dX6_readOwes_102 rfl fX6_44 hR.1 rfl ?_
                        refine g_bipushI dX6_readOwes_105 rfl rfl (fun w105 h105 => ?_)
                        refine g_iload_n1 dX6_readOwes_107 rfl ?_
                        refine g_iaddI dX6_readOwes_108 rfl ⟨by omega, by omega⟩ (fun w108 h108 => ?_)
                        refine g_iload_n2 dX6_readOwes_109 rfl ?_
                        refine g_iastI dX6_readOwes_110 rfl (rf_read hR) ⟨by omega, by omega⟩ ?_
                        rw [show w108.toInt.toNat = 24 + p0.toNat by omega]
                        refine g_vret dX6_readOwes_111 rfl ?_
                        refine ⟨rfl, ?_, frP.tr hF9 (frP.u (by omega))⟩
                        rw [heq3]
                        exact hfin)
                     | (exfalso; have hz := dd1; omega)
                 · -- 94 f
                   first
                     | (exfalso; have hz : (M87.1 300 21).toInt = 4 := e87.1.1; omega)
                     | (exfalso; have hz := hbq.1; have hz2 := hbq.2.1; omega)
                     | (refine g_aload_n0 dX6_readOwes_97 rfl ?_
                        refine g_callVv0 dX6_readOwes_98 rfl vX6_192 hR.1 rfl (r_stepOn hR hH4 dd8.2.2.1 dd3) (g_rm (by omega)) (Nat.le_of_ble_eq_true rfl) (fun M98 e98 => ?_)
                        have hF9 := frP.tr hF4 e98.1.t.p
                        have hfin : RDP t n (.inr (upT (upT T 4 p0.toNat v) 5 p0.toNat z69.toInt, e9)) (g_u M98 408 (24 + p0.toNat) z69) := ⟨RD.u (by rw [hpo.2.2.1]; exact RD.s e98.1 dd1 dd8.2.2.1 e98.2) (by decide), RP.oweTo (hP4.t e98.1.t) hV1 (by rw [q00]; omega)⟩
                        refine g_aload_n0 dX6_readOwes_101 rfl ?_
                        refine g_getr dX6_readOwes_102 rfl fX6_44 hR.1 rfl ?_
                        refine g_bipushI dX6_readOwes_105 rfl rfl (fun w105 h105 => ?_)
                        refine g_iload_n1 dX6_readOwes_107 rfl ?_
                        refine g_iaddI dX6_readOwes_108 rfl ⟨by omega, by omega⟩ (fun w108 h108 => ?_)
                        refine g_iload_n2 dX6_readOwes_109 rfl ?_
                        refine g_iastI dX6_readOwes_110 rfl (rf_read hR) ⟨by omega, by omega⟩ ?_
                        rw [show w108.toInt.toNat = 24 + p0.toNat by omega]
                        refine g_vret dX6_readOwes_111 rfl ?_
                        refine ⟨rfl, ?_, frP.tr hF9 (frP.u (by omega))⟩
                        rw [heq3]
                        exact hfin)
           · -- 64 f
             refine g_vret dX6_readOwes_67 rfl ?_
             rcases e61 with ⟨e9, h1, h2, h3, h4, h5⟩ | ⟨h1, h2, h3⟩
             · omega
             refine ⟨rfl, ?_, h3 ▸ hF3⟩
             rw [heq, h3]
             cases hx : (pNum t n (tkE t n e) 1 999) with
             | inl q => rw [hx] at hD3; exact hD3
             | inr y =>
               obtain ⟨v, e2⟩ := y
               rw [hx] at hD3 h1
               rw [zbv v e2 hx] at hP3
               show RDP t n (pIf t n e2 w_to _ _) M3
               rw [pIf_neg (show ¬ isW t n e2 w_to from h1)]
               exact ⟨hD3, hP3⟩)
    · -- 33 f
      first
        | (have hz := hbq
           refine g_vret dX6_readOwes_36 rfl ⟨rfl, ?_, hfq.p⟩
           rw [pOwe, hpq]; exact hz)
        | (have hz := e26
           refine g_vret dX6_readOwes_36 rfl ⟨rfl, ?_, hz.2.1.p⟩
           rw [pOwe, hpp]
           show RDP t n (if ¬ T 4 p0.toNat = 0 then _ else _) _
           rw [if_pos hne]; exact hz.1)
        | (exfalso; omega)
  · -- 9 f
    obtain ⟨p0, e0, hpp, hM1, hz1⟩ : ∃ p0 e0, pPer t n e (T 0 0) = .inr (p0, e0) ∧ M1 = M ∧ z1.toInt = p0 := by
      rcases e1 with ⟨q, hq, -⟩ | ⟨e9, hq, ⟨q, h1, h2, h3, -⟩ | ⟨v9, e9b, h1, h2, h3⟩⟩
      · cases hq
      · exact absurd c9 (by have := h2.1; have := h2.2.1; omega)
      · cases hq; exact ⟨v9, e9b, h1, h2, h3⟩
    clear e1
    subst M1
    have hpe := pPer_ok hpp
    have hT4 := (hP.2.2.2.2.1 p0.toNat (by omega)).2.2.2.1
    have hT5 := (hV.1.2.2.2.2.2.2.1 p0.toNat (by omega)).2.2.2.1
    refine g_aload_n0 dX6_readOwes_12 rfl ?_
    refine g_getr dX6_readOwes_13 rfl fX6_44 hR.1 rfl ?_
    refine g_bipushI dX6_readOwes_16 rfl rfl (fun w16 h16 => ?_)
    refine g_iload_n1 dX6_readOwes_18 rfl ?_
    refine g_iaddI dX6_readOwes_19 rfl ⟨by omega, by omega⟩ (fun w19 h19 => ?_)
    refine g_ialdI dX6_readOwes_20 rfl (rf_read hR) ⟨by omega, by omega⟩ ?_
    rw [show w19.toInt.toNat = 18 + p0.toNat by omega]
    refine g_if_leI (t := 29) dX6_readOwes_21 (by decide) rfl (fun c21 => ?_) (fun c21 => ?_)
    · -- 21 t
      have heq : pOwe t n T e = pBd (pNum t n (tkE t n e) 1 999) (fun v e2 => pIf t n e2 w_to (pBd (pPer t n (tkE t n e2) (T 0 0)) (fun q e3 => if q = p0 then .inl (4, tkB t n (tkE t n e2)) else .inr (upT (upT T 4 p0.toNat v) 5 p0.toNat q, e3))) (.inr (upT T 4 p0.toNat v, e2))) := by
        rw [pOwe, hpp]
        show (if ¬ T 4 p0.toNat = 0 then _ else _) = _
        rw [if_neg (by omega), hpe.2.2.1]
      refine g_aload_n0 dX6_readOwes_29 rfl ?_
      refine g_geti dX6_readOwes_30 rfl fX6_174 hR.1 rfl ?_
      refine g_if_eqI (t := 37) dX6_readOwes_33 (by decide) rfl (fun c33 => ?_) (fun c33 => ?_)
      · -- 33 t
        first
          | (exfalso; have hz : (M26.1 300 21).toInt = 4 := e26.1.1; omega)
          | (exfalso; have hz := hbq.1; have hz2 := hbq.2.1; omega)
          | (refine g_aload_n0 dX6_readOwes_37 rfl ?_
             refine g_callVv0 dX6_readOwes_38 rfl vX6_192 hR.1 rfl (r_stepOn hR hH d8.2.2.1 d3) (g_rm (by omega)) (Nat.le_of_ble_eq_true rfl) (fun M38 e38 => ?_)
             have hH2 := hH.s e38.1
             have hD2 := RD.s e38.1 d1 d8.2.2.1 e38.2
             have hP2 := hP.t e38.1.t
             have hF2 := e38.1.t.p
             refine g_aload_n0 dX6_readOwes_41 rfl ?_
             refine g_getr dX6_readOwes_42 rfl fX6_44 hR.1 rfl ?_
             refine g_bipushI dX6_readOwes_45 rfl rfl (fun w45 h45 => ?_)
             refine g_iload_n1 dX6_readOwes_47 rfl ?_
             refine g_iaddI dX6_readOwes_48 rfl ⟨by omega, by omega⟩ (fun w48 h48 => ?_)
             refine g_aload_n0 dX6_readOwes_49 rfl ?_
             refine g_iconstI dX6_readOwes_50 rfl rfl (fun w50 h50 => ?_)
             refine g_sipushI dX6_readOwes_51 rfl rfl (fun w51 h51 => ?_)
             refine g_callVi2 dX6_readOwes_54 rfl vX6_207 hR.1 rfl (r_readNumber (ρ := pRho (α := Unit) (.inr ((), tkE t n e))) hR hH2 hD2) (g_rm (by omega)) (Nat.le_of_ble_eq_true rfl) (fun z54 M54 e54 => ?_)
             rw [h50, h51] at e54
             obtain ⟨hDb, fb, zbv⟩ := nx_num (X := (.inr ((), tkE t n e) : pR Unit)) hD2 e54
             replace hDb : RD t n (pRho (pNum t n (tkE t n e) 1 999)) M54 := hDb
             replace zbv : ∀ v e1, (pNum t n (tkE t n e) 1 999) = .inr (v, e1) → z54.toInt = v := zbv
             clear e54
             have hPb := hP2.t fb
             have hFb := frP.tr hF2 fb.p
             refine g_iastI dX6_readOwes_57 rfl (rf_read hR) ⟨by omega, by omega⟩ ?_
             rw [show w48.toInt.toNat = 18 + p0.toNat by omega]
             obtain ⟨M3, hM3⟩ : ∃ M3, M3 = g_u M54 408 (18 + p0.toNat) z54 := ⟨_, rfl⟩
             refine g_fwd (M1 := M3) ?_ hM3
             have hP3 : RP (upT T 4 p0.toNat z54.toInt) M3 := by rw [hM3]; exact RP.owe hPb hV (by omega)
             have hF3 : frP M M3 := by rw [hM3]; exact frP.tr hFb (frP.u (by omega))
             have hH3 := hH.p hF3
             have hD3 : RD t n (pRho (pNum t n (tkE t n e) 1 999)) M3 := by rw [hM3]; exact RD.u hDb (by decide)
             clear hM3
             refine g_aload_n0 dX6_readOwes_58 rfl ?_
             refine g_ldcS (c := 27) dX6_readOwes_59 rfl rfl ?_
             refine g_callVi1 dX6_readOwes_61 rfl vX6_204 hR.1 rfl (r_passes (c := 27) hR hH3 hD3 rfl) (g_rm (by omega)) (Nat.le_of_ble_eq_true rfl) (fun z61 M61 e61 => ?_)
             refine g_if_neI (t := 68) dX6_readOwes_64 (by decide) rfl (fun c64 => ?_) (fun c64 => ?_)
             · -- 64 t
               obtain ⟨e2, hpe2, hyw, hD4, hf4⟩ : ∃ e2, pRho (pNum t n (tkE t n e) 1 999) = .inr e2 ∧ isW t n e2 w_to ∧ RD t n (.inr (tkE t n e2)) M61 ∧ frT M3 M61 := by
                 rcases e61 with ⟨e9, h1, h2, h3, h4, h5⟩ | ⟨h1, h2, h3⟩
                 · exact ⟨e9, h1, h2, h4, h5⟩
                 · omega
               clear e61
               obtain ⟨v, hv1⟩ : ∃ v, (pNum t n (tkE t n e) 1 999) = .inr (v, e2) := by
                 cases hx : (pNum t n (tkE t n e) 1 999) with
                 | inl q => rw [hx] at hpe2; cases hpe2
                 | inr y => obtain ⟨v, e9⟩ := y; rw [hx] at hpe2; cases hpe2; exact ⟨v, rfl⟩
               have hzv4 := zbv v e2 hv1
               have hvo := pNum_ok hv1
               rw [hzv4] at hP3
               have hV1 := PIV.owe hV (p := p0.toNat) (v := v) (by omega) ⟨hvo.1, hvo.2.1⟩
               have q00 : upT T 4 p0.toNat v 0 0 = T 0 0 := by simp [upT]
               have hP4 := hP3.t hf4
               have hF4 := frP.tr hF3 hf4.p
               have hH4 := hH.p hF4
               have heq2 : pOwe t n T e = pBd (pPer t n (tkE t n e2) (T 0 0)) (fun q e3 => if q = p0 then .inl (4, tkB t n (tkE t n e2)) else .inr (upT (upT T 4 p0.toNat v) 5 p0.toNat q, e3)) := by
                 rw [heq, hv1]
                 show pIf t n e2 w_to _ _ = _
                 rw [pIf_pos hyw]
               refine g_aload_n0 dX6_readOwes_68 rfl ?_
               refine g_callVi0 dX6_readOwes_69 rfl vX6_199 hR.1 rfl (r_personNow hR hH4 hD4 hP4.1) (g_rm (by omega)) (Nat.le_of_ble_eq_true rfl) (fun z69 M69 e69 => ?_)
               refine g_istore_n2 dX6_readOwes_72 rfl rfl ?_
               refine g_aload_n0 dX6_readOwes_73 rfl ?_
               refine g_geti dX6_readOwes_74 rfl fX6_174 hR.1 rfl ?_
               refine g_if_neI (t := 90) dX6_readOwes_77 (by decide) rfl (fun c77 => ?_) (fun c77 => ?_)
               · -- 77 t
                 obtain ⟨q, hpq, hbq, hfq⟩ : ∃ q, pPer t n (tkE t n e2) (T 0 0) = .inl q ∧ RD t n (.inl q) M69 ∧ frT M61 M69 := by
                   rcases e69 with ⟨q, hq, -⟩ | ⟨e9, hq, ⟨q, h1, h2, h3, -⟩ | ⟨v9, e9b, h1, h2, h3⟩⟩
                   · cases hq
                   · cases hq; rw [q00] at h1; exact ⟨q, h1, h2, h3⟩
                   · cases hq; rw [h2] at c77; exact absurd hD4.1 c77
                 clear e69
                 have hF9 := frP.tr hF4 hfq.p
                 have hfin : RDP t n (.inl q) (g_u M69 408 (24 + p0.toNat) z69) := RD.u hbq (by decide)
                 have heq3 : pOwe t n T e = .inl q := by
                   rw [heq2, hpq]; rfl
                 refine g_aload_n0 dX6_readOwes_90 rfl ?_
                 refine g_geti dX6_readOwes_91 rfl fX6_174 hR.1 rfl ?_
                 refine g_if_neI (t := 101) dX6_readOwes_94 (by decide) rfl (fun c94 => ?_) (fun c94 => ?_)
                 · -- 94 t
                   first
                     | (have hz := hfin
                        refine g_aload_n0 dX6_readOwes_101 rfl ?_
                        refine g_getr dX6_readOwes_102 rfl fX6_44 hR.1 rfl ?_
                        refine g_bipushI dX6_readOwes_105 rfl rfl (fun w105 h105 => ?_)
                        refine g_iload_n1 dX6_readOwes_107 rfl ?_
                        refine g_iaddI dX6_readOwes_108 rfl ⟨by omega, by omega⟩ (fun w108 h108 => ?_)
                        refine g_iload_n2 dX6_readOwes_109 rfl ?_
                        refine g_iastI dX6_readOwes_110 rfl (rf_read hR) ⟨by omega, by omega⟩ ?_
                        rw [show w108.toInt.toNat = 24 + p0.toNat by omega]
                        refine g_vret dX6_readOwes_111 rfl ?_
                        refine ⟨rfl, ?_, frP.tr hF9 (frP.u (by omega))⟩
                        rw [heq3]
                        exact hfin)
                     | (have hz := e87
                        have hF9 := frP.tr hF4 e87.2.1.p
                        have hfin : RDP t n (.inl (4, tkB t n (tkE t n e2))) (g_u M87 408 (24 + p0.toNat) z69) := RD.u e87.1 (by decide)
                        refine g_aload_n0 dX6_readOwes_101 rfl ?_
                        refine g_getr dX6_readOwes_102 rfl fX6_44 hR.1 rfl ?_
                        refine g_bipushI dX6_readOwes_105 rfl rfl (fun w105 h105 => ?_)
                        refine g_iload_n1 dX6_readOwes_107 rfl ?_
                        refine g_iaddI dX6_readOwes_108 rfl ⟨by omega, by omega⟩ (fun w108 h108 => ?_)
                        refine g_iload_n2 dX6_readOwes_109 rfl ?_
                        refine g_iastI dX6_readOwes_110 rfl (rf_read hR) ⟨by omega, by omega⟩ ?_
                        rw [show w108.toInt.toNat = 24 + p0.toNat by omega]
                        refine g_vret dX6_readOwes_111 rfl ?_
                        refine ⟨rfl, ?_, frP.tr hF9 (frP.u (by omega))⟩
                        rw [heq3]
                        exact hfin)
                     | (exfalso; have hz := dd1; omega)
                 · -- 94 f
                   first
                     | (exfalso; have hz : (M87.1 300 21).toInt = 4 := e87.1.1; omega)
                     | (exfalso; have hz := hbq.1; have hz2 := hbq.2.1; omega)
                     | (refine g_aload_n0 dX6_readOwes_97 rfl ?_
                        refine g_callVv0 dX6_readOwes_98 rfl vX6_192 hR.1 rfl (r_stepOn hR hH4 dd8.2.2.1 dd3) (g_rm (by omega)) (Nat.le_of_ble_eq_true rfl) (fun M98 e98 => ?_)
                        have hF9 := frP.tr hF4 e98.1.t.p
                        have hfin : RDP t n (.inr (upT (upT T 4 p0.toNat v) 5 p0.toNat z69.toInt, e9)) (g_u M98 408 (24 + p0.toNat) z69) := ⟨RD.u (by rw [hpo.2.2.1]; exact RD.s e98.1 dd1 dd8.2.2.1 e98.2) (by decide), RP.oweTo (hP4.t e98.1.t) hV1 (by rw [q00]; omega)⟩
                        refine g_aload_n0 dX6_readOwes_101 rfl ?_
                        refine g_getr dX6_readOwes_102 rfl fX6_44 hR.1 rfl ?_
                        refine g_bipushI dX6_readOwes_105 rfl rfl (fun w105 h105 => ?_)
                        refine g_iload_n1 dX6_readOwes_107 rfl ?_
                        refine g_iaddI dX6_readOwes_108 rfl ⟨by omega, by omega⟩ (fun w108 h108 => ?_)
                        refine g_iload_n2 dX6_readOwes_109 rfl ?_
                        refine g_iastI dX6_readOwes_110 rfl (rf_read hR) ⟨by omega, by omega⟩ ?_
                        rw [show w108.toInt.toNat = 24 + p0.toNat by omega]
                        refine g_vret dX6_readOwes_111 rfl ?_
                        refine ⟨rfl, ?_, frP.tr hF9 (frP.u (by omega))⟩
                        rw [heq3]
                        exact hfin)
               · -- 77 f
                 obtain ⟨v9, e9, hpv, rfl, hzv⟩ : ∃ v9 e9, pPer t n (tkE t n e2) (T 0 0) = .inr (v9, e9) ∧ M69 = M61 ∧ z69.toInt = v9 := by
                   rcases e69 with ⟨q, hq, -⟩ | ⟨e9, hq, ⟨q, h1, h2, h3, -⟩ | ⟨v9, e9b, h1, h2, h3⟩⟩
                   · cases hq
                   · exact absurd c77 (by have := h2.1; have := h2.2.1; omega)
                   · cases hq; rw [q00] at h1; exact ⟨v9, e9b, h1, h2, h3⟩
                 have hpo := pPer_ok hpv
                 have hD5 := hD4
                 clear e69
                 obtain ⟨dd1, dd2, dd3, dd4, dd5, dd6, -⟩ := id hD4
                 have dd8 := tk_rng (t := t) dd2
                 refine g_iload_n2 dX6_readOwes_80 rfl ?_
                 refine g_iload_n1 dX6_readOwes_81 rfl ?_
                 refine g_icmp_neI (t := 90) dX6_readOwes_82 (by decide) rfl (fun c82 => ?_) (fun c82 => ?_)
                 · -- 82 t
                   have heq3 : pOwe t n T e = .inr (upT (upT T 4 p0.toNat v) 5 p0.toNat z69.toInt, e9) := by
                     rw [heq2, hpv]
                     show (if v9 = p0 then _ else _) = _
                     rw [if_neg (by omega), hzv]
                   refine g_aload_n0 dX6_readOwes_90 rfl ?_
                   refine g_geti dX6_readOwes_91 rfl fX6_174 hR.1 rfl ?_
                   refine g_if_neI (t := 101) dX6_readOwes_94 (by decide) rfl (fun c94 => ?_) (fun c94 => ?_)
                   · -- 94 t
                     first
                       | (have hz := hfin
                          refine g_aload_n0 dX6_readOwes_101 rfl ?_
                          refine g_getr dX6_readOwes_102 rfl fX6_44 hR.1 rfl ?_
                          refine g_bipushI dX6_readOwes_105 rfl rfl (fun w105 h105 => ?_)
                          refine g_iload_n1 dX6_readOwes_107 rfl ?_
                          refine g_iaddI dX6_readOwes_108 rfl ⟨by omega, by omega⟩ (fun w108 h108 => ?_)
                          refine g_iload_n2 dX6_readOwes_109 rfl ?_
                          refine g_iastI dX6_readOwes_110 rfl (rf_read hR) ⟨by omega, by omega⟩ ?_
                          rw [show w108.toInt.toNat = 24 + p0.toNat by omega]
                          refine g_vret dX6_readOwes_111 rfl ?_
                          refine ⟨rfl, ?_, frP.tr hF9 (frP.u (by omega))⟩
                          rw [heq3]
                          exact hfin)
                       | (have hz := e87
                          have hF9 := frP.tr hF4 e87.2.1.p
                          have hfin : RDP t n (.inl (4, tkB t n (tkE t n e2))) (g_u M87 408 (24 + p0.toNat) z69) := RD.u e87.1 (by decide)
                          refine g_aload_n0 dX6_readOwes_101 rfl ?_
                          refine g_getr dX6_readOwes_102 rfl fX6_44 hR.1 rfl ?_
                          refine g_bipushI dX6_readOwes_105 rfl rfl (fun w105 h105 => ?_)
                          refine g_iload_n1 dX6_readOwes_107 rfl ?_
                          refine g_iaddI dX6_readOwes_108 rfl ⟨by omega, by omega⟩ (fun w108 h108 => ?_)
                          refine g_iload_n2 dX6_readOwes_109 rfl ?_
                          refine g_iastI dX6_readOwes_110 rfl (rf_read hR) ⟨by omega, by omega⟩ ?_
                          rw [show w108.toInt.toNat = 24 + p0.toNat by omega]
                          refine g_vret dX6_readOwes_111 rfl ?_
                          refine ⟨rfl, ?_, frP.tr hF9 (frP.u (by omega))⟩
                          rw [heq3]
                          exact hfin)
                       | (exfalso; have hz := dd1; omega)
                   · -- 94 f
                     first
                       | (exfalso; have hz : (M87.1 300 21).toInt = 4 := e87.1.1; omega)
                       | (exfalso; have hz := hbq.1; have hz2 := hbq.2.1; omega)
                       | (refine g_aload_n0 dX6_readOwes_97 rfl ?_
                          refine g_callVv0 dX6_readOwes_98 rfl vX6_192 hR.1 rfl (r_stepOn hR hH4 dd8.2.2.1 dd3) (g_rm (by omega)) (Nat.le_of_ble_eq_true rfl) (fun M98 e98 => ?_)
                          have hF9 := frP.tr hF4 e98.1.t.p
                          have hfin : RDP t n (.inr (upT (upT T 4 p0.toNat v) 5 p0.toNat z69.toInt, e9)) (g_u M98 408 (24 + p0.toNat) z69) := ⟨RD.u (by rw [hpo.2.2.1]; exact RD.s e98.1 dd1 dd8.2.2.1 e98.2) (by decide), RP.oweTo (hP4.t e98.1.t) hV1 (by rw [q00]; omega)⟩
                          refine g_aload_n0 dX6_readOwes_101 rfl ?_
                          refine g_getr dX6_readOwes_102 rfl fX6_44 hR.1 rfl ?_
                          refine g_bipushI dX6_readOwes_105 rfl rfl (fun w105 h105 => ?_)
                          refine g_iload_n1 dX6_readOwes_107 rfl ?_
                          refine g_iaddI dX6_readOwes_108 rfl ⟨by omega, by omega⟩ (fun w108 h108 => ?_)
                          refine g_iload_n2 dX6_readOwes_109 rfl ?_
                          refine g_iastI dX6_readOwes_110 rfl (rf_read hR) ⟨by omega, by omega⟩ ?_
                          rw [show w108.toInt.toNat = 24 + p0.toNat by omega]
                          refine g_vret dX6_readOwes_111 rfl ?_
                          refine ⟨rfl, ?_, frP.tr hF9 (frP.u (by omega))⟩
                          rw [heq3]
                          exact hfin)
                 · -- 82 f
                   have heq3 : pOwe t n T e = .inl (4, tkB t n (tkE t n e2)) := by
                     rw [heq2, hpv]
                     show (if v9 = p0 then _ else _) = _
                     rw [if_pos (by omega)]
                   refine g_aload_n0 dX6_readOwes_85 rfl ?_
                   refine g_iconstI dX6_readOwes_86 rfl rfl (fun w86 h86 => ?_)
                   refine g_callVv1 dX6_readOwes_87 rfl vX6_195 hR.1 rfl (r_wrong hR hD5 (by omega)) (g_rm (by omega)) (Nat.le_of_ble_eq_true rfl) (fun M87 e87 => ?_)
                   rw [h86] at e87
                   refine g_aload_n0 dX6_readOwes_90 rfl ?_
                   refine g_geti dX6_readOwes_91 rfl fX6_174 hR.1 rfl ?_
                   refine g_if_neI (t := 101) dX6_readOwes_94 (by decide) rfl (fun c94 => ?_) (fun c94 => ?_)
                   · -- 94 t
                     first
                       | (have hz := hfin
                          refine g_aload_n0 dX6_readOwes_101 rfl ?_
                          refine g_getr dX6_readOwes_102 rfl fX6_44 hR.1 rfl ?_
                          refine g_bipushI dX6_readOwes_105 rfl rfl (fun w105 h105 => ?_)
                          refine g_iload_n1 dX6_readOwes_107 rfl ?_
                          refine g_iaddI dX6_readOwes_108 rfl ⟨by omega, by omega⟩ (fun w108 h108 => ?_)
                          refine g_iload_n2 dX6_readOwes_109 rfl ?_
                          refine g_iastI dX6_readOwes_110 rfl (rf_read hR) ⟨by omega, by omega⟩ ?_
                          rw [show w108.toInt.toNat = 24 + p0.toNat by omega]
                          refine g_vret dX6_readOwes_111 rfl ?_
                          refine ⟨rfl, ?_, frP.tr hF9 (frP.u (by omega))⟩
                          rw [heq3]
                          exact hfin)
                       | (have hz := e87
                          have hF9 := frP.tr hF4 e87.2.1.p
                          have hfin : RDP t n (.inl (4, tkB t n (tkE t n e2))) (g_u M87 408 (24 + p0.toNat) z69) := RD.u e87.1 (by decide)
                          refine g_aload_n0 dX6_readOwes_101 rfl ?_
                          refine g_getr dX6_readOwes_102 rfl fX6_44 hR.1 rfl ?_
                          refine g_bipushI dX6_readOwes_105 rfl rfl (fun w105 h105 => ?_)
                          refine g_iload_n1 dX6_readOwes_107 rfl ?_
                          refine g_iaddI dX6_readOwes_108 rfl ⟨by omega, by omega⟩ (fun w108 h108 => ?_)
                          refine g_iload_n2 dX6_readOwes_109 rfl ?_
                          refine g_iastI dX6_readOwes_110 rfl (rf_read hR) ⟨by omega, by omega⟩ ?_
                          rw [show w108.toInt.toNat = 24 + p0.toNat by omega]
                          refine g_vret dX6_readOwes_111 rfl ?_
                          refine ⟨rfl, ?_, frP.tr hF9 (frP.u (by omega))⟩
                          rw [heq3]
                          exact hfin)
                       | (exfalso; have hz := dd1; omega)
                   · -- 94 f
                     first
                       | (exfalso; have hz : (M87.1 300 21).toInt = 4 := e87.1.1; omega)
                       | (exfalso; have hz := hbq.1; have hz2 := hbq.2.1; omega)
                       | (refine g_aload_n0 dX6_readOwes_97 rfl ?_
                          refine g_callVv0 dX6_readOwes_98 rfl vX6_192 hR.1 rfl (r_stepOn hR hH4 dd8.2.2.1 dd3) (g_rm (by omega)) (Nat.le_of_ble_eq_true rfl) (fun M98 e98 => ?_)
                          have hF9 := frP.tr hF4 e98.1.t.p
                          have hfin : RDP t n (.inr (upT (upT T 4 p0.toNat v) 5 p0.toNat z69.toInt, e9)) (g_u M98 408 (24 + p0.toNat) z69) := ⟨RD.u (by rw [hpo.2.2.1]; exact RD.s e98.1 dd1 dd8.2.2.1 e98.2) (by decide), RP.oweTo (hP4.t e98.1.t) hV1 (by rw [q00]; omega)⟩
                          refine g_aload_n0 dX6_readOwes_101 rfl ?_
                          refine g_getr dX6_readOwes_102 rfl fX6_44 hR.1 rfl ?_
                          refine g_bipushI dX6_readOwes_105 rfl rfl (fun w105 h105 => ?_)
                          refine g_iload_n1 dX6_readOwes_107 rfl ?_
                          refine g_iaddI dX6_readOwes_108 rfl ⟨by omega, by omega⟩ (fun w108 h108 => ?_)
                          refine g_iload_n2 dX6_readOwes_109 rfl ?_
                          refine g_iastI dX6_readOwes_110 rfl (rf_read hR) ⟨by omega, by omega⟩ ?_
                          rw [show w108.toInt.toNat = 24 + p0.toNat by omega]
                          refine g_vret dX6_readOwes_111 rfl ?_
                          refine ⟨rfl, ?_, frP.tr hF9 (frP.u (by omega))⟩
                          rw [heq3]
                          exact hfin)
             · -- 64 f
               refine g_vret dX6_readOwes_67 rfl ?_
               rcases e61 with ⟨e9, h1, h2, h3, h4, h5⟩ | ⟨h1, h2, h3⟩
               · omega
               refine ⟨rfl, ?_, h3 ▸ hF3⟩
               rw [heq, h3]
               cases hx : (pNum t n (tkE t n e) 1 999) with
               | inl q => rw [hx] at hD3; exact hD3
               | inr y =>
                 obtain ⟨v, e2⟩ := y
                 rw [hx] at hD3 h1
                 rw [zbv v e2 hx] at hP3
                 show RDP t n (pIf t n e2 w_to _ _) M3
                 rw [pIf_neg (show ¬ isW t n e2 w_to from h1)]
                 exact ⟨hD3, hP3⟩)
      · -- 33 f
        first
          | (have hz := hbq
             refine g_vret dX6_readOwes_36 rfl ⟨rfl, ?_, hfq.p⟩
             rw [pOwe, hpq]; exact hz)
          | (have hz := e26
             refine g_vret dX6_readOwes_36 rfl ⟨rfl, ?_, hz.2.1.p⟩
             rw [pOwe, hpp]
             show RDP t n (if ¬ T 4 p0.toNat = 0 then _ else _) _
             rw [if_pos hne]; exact hz.1)
          | (exfalso; omega)
    · -- 21 f
      have hne : ¬ T 4 p0.toNat = 0 := by omega
      refine g_aload_n0 dX6_readOwes_24 rfl ?_
      refine g_iconstI dX6_readOwes_25 rfl rfl (fun w25 h25 => ?_)
      refine g_callVv1 dX6_readOwes_26 rfl vX6_195 hR.1 rfl (r_wrong hR hD (by omega)) (g_rm (by omega)) (Nat.le_of_ble_eq_true rfl) (fun M26 e26 => ?_)
      rw [h25] at e26
      refine g_aload_n0 dX6_readOwes_29 rfl ?_
      refine g_geti dX6_readOwes_30 rfl fX6_174 hR.1 rfl ?_
      refine g_if_eqI (t := 37) dX6_readOwes_33 (by decide) rfl (fun c33 => ?_) (fun c33 => ?_)
      · -- 33 t
        first
          | (exfalso; have hz : (M26.1 300 21).toInt = 4 := e26.1.1; omega)
          | (exfalso; have hz := hbq.1; have hz2 := hbq.2.1; omega)
          | (refine g_aload_n0 dX6_readOwes_37 rfl ?_
             refine g_callVv0 dX6_readOwes_38 rfl vX6_192 hR.1 rfl (r_stepOn hR hH d8.2.2.1 d3) (g_rm (by omega)) (Nat.le_of_ble_eq_true rfl) (fun M38 e38 => ?_)
             have hH2 := hH.s e38.1
             have hD2 := RD.s e38.1 d1 d8.2.2.1 e38.2
             have hP2 := hP.t e38.1.t
             have hF2 := e38.1.t.p
             refine g_aload_n0 dX6_readOwes_41 rfl ?_
             refine g_getr dX6_readOwes_42 rfl fX6_44 hR.1 rfl ?_
             refine g_bipushI dX6_readOwes_45 rfl rfl (fun w45 h45 => ?_)
             refine g_iload_n1 dX6_readOwes_47 rfl ?_
             refine g_iaddI dX6_readOwes_48 rfl ⟨by omega, by omega⟩ (fun w48 h48 => ?_)
             refine g_aload_n0 dX6_readOwes_49 rfl ?_
             refine g_iconstI dX6_readOwes_50 rfl rfl (fun w50 h50 => ?_)
             refine g_sipushI dX6_readOwes_51 rfl rfl (fun w51 h51 => ?_)
             refine g_callVi2 dX6_readOwes_54 rfl vX6_207 hR.1 rfl (r_readNumber (ρ := pRho (α := Unit) (.inr ((), tkE t n e))) hR hH2 hD2) (g_rm (by omega)) (Nat.le_of_ble_eq_true rfl) (fun z54 M54 e54 => ?_)
             rw [h50, h51] at e54
             obtain ⟨hDb, fb, zbv⟩ := nx_num (X := (.inr ((), tkE t n e) : pR Unit)) hD2 e54
             replace hDb : RD t n (pRho (pNum t n (tkE t n e) 1 999)) M54 := hDb
             replace zbv : ∀ v e1, (pNum t n (tkE t n e) 1 999) = .inr (v, e1) → z54.toInt = v := zbv
             clear e54
             have hPb := hP2.t fb
             have hFb := frP.tr hF2 fb.p
             refine g_iastI dX6_readOwes_57 rfl (rf_read hR) ⟨by omega, by omega⟩ ?_
             rw [show w48.toInt.toNat = 18 + p0.toNat by omega]
             obtain ⟨M3, hM3⟩ : ∃ M3, M3 = g_u M54 408 (18 + p0.toNat) z54 := ⟨_, rfl⟩
             refine g_fwd (M1 := M3) ?_ hM3
             have hP3 : RP (upT T 4 p0.toNat z54.toInt) M3 := by rw [hM3]; exact RP.owe hPb hV (by omega)
             have hF3 : frP M M3 := by rw [hM3]; exact frP.tr hFb (frP.u (by omega))
             have hH3 := hH.p hF3
             have hD3 : RD t n (pRho (pNum t n (tkE t n e) 1 999)) M3 := by rw [hM3]; exact RD.u hDb (by decide)
             clear hM3
             refine g_aload_n0 dX6_readOwes_58 rfl ?_
             refine g_ldcS (c := 27) dX6_readOwes_59 rfl rfl ?_
             refine g_callVi1 dX6_readOwes_61 rfl vX6_204 hR.1 rfl (r_passes (c := 27) hR hH3 hD3 rfl) (g_rm (by omega)) (Nat.le_of_ble_eq_true rfl) (fun z61 M61 e61 => ?_)
             refine g_if_neI (t := 68) dX6_readOwes_64 (by decide) rfl (fun c64 => ?_) (fun c64 => ?_)
             · -- 64 t
               obtain ⟨e2, hpe2, hyw, hD4, hf4⟩ : ∃ e2, pRho (pNum t n (tkE t n e) 1 999) = .inr e2 ∧ isW t n e2 w_to ∧ RD t n (.inr (tkE t n e2)) M61 ∧ frT M3 M61 := by
                 rcases e61 with ⟨e9, h1, h2, h3, h4, h5⟩ | ⟨h1, h2, h3⟩
                 · exact ⟨e9, h1, h2, h4, h5⟩
                 · omega
               clear e61
               obtain ⟨v, hv1⟩ : ∃ v, (pNum t n (tkE t n e) 1 999) = .inr (v, e2) := by
                 cases hx : (pNum t n (tkE t n e) 1 999) with
                 | inl q => rw [hx] at hpe2; cases hpe2
                 | inr y => obtain ⟨v, e9⟩ := y; rw [hx] at hpe2; cases hpe2; exact ⟨v, rfl⟩
               have hzv4 := zbv v e2 hv1
               have hvo := pNum_ok hv1
               rw [hzv4] at hP3
               have hV1 := PIV.owe hV (p := p0.toNat) (v := v) (by omega) ⟨hvo.1, hvo.2.1⟩
               have q00 : upT T 4 p0.toNat v 0 0 = T 0 0 := by simp [upT]
               have hP4 := hP3.t hf4
               have hF4 := frP.tr hF3 hf4.p
               have hH4 := hH.p hF4
               have heq2 : pOwe t n T e = pBd (pPer t n (tkE t n e2) (T 0 0)) (fun q e3 => if q = p0 then .inl (4, tkB t n (tkE t n e2)) else .inr (upT (upT T 4 p0.toNat v) 5 p0.toNat q, e3)) := by
                 rw [heq, hv1]
                 show pIf t n e2 w_to _ _ = _
                 rw [pIf_pos hyw]
               refine g_aload_n0 dX6_readOwes_68 rfl ?_
               refine g_callVi0 dX6_readOwes_69 rfl vX6_199 hR.1 rfl (r_personNow hR hH4 hD4 hP4.1) (g_rm (by omega)) (Nat.le_of_ble_eq_true rfl) (fun z69 M69 e69 => ?_)
               refine g_istore_n2 dX6_readOwes_72 rfl rfl ?_
               refine g_aload_n0 dX6_readOwes_73 rfl ?_
               refine g_geti dX6_readOwes_74 rfl fX6_174 hR.1 rfl ?_
               refine g_if_neI (t := 90) dX6_readOwes_77 (by decide) rfl (fun c77 => ?_) (fun c77 => ?_)
               · -- 77 t
                 obtain ⟨q, hpq, hbq, hfq⟩ : ∃ q, pPer t n (tkE t n e2) (T 0 0) = .inl q ∧ RD t n (.inl q) M69 ∧ frT M61 M69 := by
                   rcases e69 with ⟨q, hq, -⟩ | ⟨e9, hq, ⟨q, h1, h2, h3, -⟩ | ⟨v9, e9b, h1, h2, h3⟩⟩
                   · cases hq
                   · cases hq; rw [q00] at h1; exact ⟨q, h1, h2, h3⟩
                   · cases hq; rw [h2] at c77; exact absurd hD4.1 c77
                 clear e69
                 have hF9 := frP.tr hF4 hfq.p
                 have hfin : RDP t n (.inl q) (g_u M69 408 (24 + p0.toNat) z69) := RD.u hbq (by decide)
                 have heq3 : pOwe t n T e = .inl q := by
                   rw [heq2, hpq]; rfl
                 refine g_aload_n0 dX6_readOwes_90 rfl ?_
                 refine g_geti dX6_readOwes_91 rfl fX6_174 hR.1 rfl ?_
                 refine g_if_neI (t := 101) dX6_readOwes_94 (by decide) rfl (fun c94 => ?_) (fun c94 => ?_)
                 · -- 94 t
                   first
                     | (have hz := hfin
                        refine g_aload_n0 dX6_readOwes_101 rfl ?_
                        refine g_getr dX6_readOwes_102 rfl fX6_44 hR.1 rfl ?_
                        refine g_bipushI dX6_readOwes_105 rfl rfl (fun w105 h105 => ?_)
                        refine g_iload_n1 dX6_readOwes_107 rfl ?_
                        refine g_iaddI dX6_readOwes_108 rfl ⟨by omega, by omega⟩ (fun w108 h108 => ?_)
                        refine g_iload_n2 dX6_readOwes_109 rfl ?_
                        refine g_iastI dX6_readOwes_110 rfl (rf_read hR) ⟨by omega, by omega⟩ ?_
                        rw [show w108.toInt.toNat = 24 + p0.toNat by omega]
                        refine g_vret dX6_readOwes_111 rfl ?_
                        refine ⟨rfl, ?_, frP.tr hF9 (frP.u (by omega))⟩
                        rw [heq3]
                        exact hfin)
                     | (have hz := e87
                        have hF9 := frP.tr hF4 e87.2.1.p
                        have hfin : RDP t n (.inl (4, tkB t n (tkE t n e2))) (g_u M87 408 (24 + p0.toNat) z69) := RD.u e87.1 (by decide)
                        refine g_aload_n0 dX6_readOwes_101 rfl ?_
                        refine g_getr dX6_readOwes_102 rfl fX6_44 hR.1 rfl ?_
                        refine g_bipushI dX6_readOwes_105 rfl rfl (fun w105 h105 => ?_)
                        refine g_iload_n1 dX6_readOwes_107 rfl ?_
                        refine g_iaddI dX6_readOwes_108 rfl ⟨by omega, by omega⟩ (fun w108 h108 => ?_)
                        refine g_iload_n2 dX6_readOwes_109 rfl ?_
                        refine g_iastI dX6_readOwes_110 rfl (rf_read hR) ⟨by omega, by omega⟩ ?_
                        rw [show w108.toInt.toNat = 24 + p0.toNat by omega]
                        refine g_vret dX6_readOwes_111 rfl ?_
                        refine ⟨rfl, ?_, frP.tr hF9 (frP.u (by omega))⟩
                        rw [heq3]
                        exact hfin)
                     | (exfalso; have hz := dd1; omega)
                 · -- 94 f
                   first
                     | (exfalso; have hz : (M87.1 300 21).toInt = 4 := e87.1.1; omega)
                     | (exfalso; have hz := hbq.1; have hz2 := hbq.2.1; omega)
                     | (refine g_aload_n0 dX6_readOwes_97 rfl ?_
                        refine g_callVv0 dX6_readOwes_98 rfl vX6_192 hR.1 rfl (r_stepOn hR hH4 dd8.2.2.1 dd3) (g_rm (by omega)) (Nat.le_of_ble_eq_true rfl) (fun M98 e98 => ?_)
                        have hF9 := frP.tr hF4 e98.1.t.p
                        have hfin : RDP t n (.inr (upT (upT T 4 p0.toNat v) 5 p0.toNat z69.toInt, e9)) (g_u M98 408 (24 + p0.toNat) z69) := ⟨RD.u (by rw [hpo.2.2.1]; exact RD.s e98.1 dd1 dd8.2.2.1 e98.2) (by decide), RP.oweTo (hP4.t e98.1.t) hV1 (by rw [q00]; omega)⟩
                        refine g_aload_n0 dX6_readOwes_101 rfl ?_
                        refine g_getr dX6_readOwes_102 rfl fX6_44 hR.1 rfl ?_
                        refine g_bipushI dX6_readOwes_105 rfl rfl (fun w105 h105 => ?_)
                        refine g_iload_n1 dX6_readOwes_107 rfl ?_
                        refine g_iaddI dX6_readOwes_108 rfl ⟨by omega, by omega⟩ (fun w108 h108 => ?_)
                        refine g_iload_n2 dX6_readOwes_109 rfl ?_
                        refine g_iastI dX6_readOwes_110 rfl (rf_read hR) ⟨by omega, by omega⟩ ?_
                        rw [show w108.toInt.toNat = 24 + p0.toNat by omega]
                        refine g_vret dX6_readOwes_111 rfl ?_
                        refine ⟨rfl, ?_, frP.tr hF9 (frP.u (by omega))⟩
                        rw [heq3]
                        exact hfin)
               · -- 77 f
                 obtain ⟨v9, e9, hpv, rfl, hzv⟩ : ∃ v9 e9, pPer t n (tkE t n e2) (T 0 0) = .inr (v9, e9) ∧ M69 = M61 ∧ z69.toInt = v9 := by
                   rcases e69 with ⟨q, hq, -⟩ | ⟨e9, hq, ⟨q, h1, h2, h3, -⟩ | ⟨v9, e9b, h1, h2, h3⟩⟩
                   · cases hq
                   · exact absurd c77 (by have := h2.1; have := h2.2.1; omega)
                   · cases hq; rw [q00] at h1; exact ⟨v9, e9b, h1, h2, h3⟩
                 have hpo := pPer_ok hpv
                 have hD5 := hD4
                 clear e69
                 obtain ⟨dd1, dd2, dd3, dd4, dd5, dd6, -⟩ := id hD4
                 have dd8 := tk_rng (t := t) dd2
                 refine g_iload_n2 dX6_readOwes_80 rfl ?_
                 refine g_iload_n1 dX6_readOwes_81 rfl ?_
                 refine g_icmp_neI (t := 90) dX6_readOwes_82 (by decide) rfl (fun c82 => ?_) (fun c82 => ?_)
                 · -- 82 t
                   have heq3 : pOwe t n T e = .inr (upT (upT T 4 p0.toNat v) 5 p0.toNat z69.toInt, e9) := by
                     rw [heq2, hpv]
                     show (if v9 = p0 then _ else _) = _
                     rw [if_neg (by omega), hzv]
                   refine g_aload_n0 dX6_readOwes_90 rfl ?_
                   refine g_geti dX6_readOwes_91 rfl fX6_174 hR.1 rfl ?_
                   refine g_if_neI (t := 101) dX6_readOwes_94 (by decide) rfl (fun c94 => ?_) (fun c94 => ?_)
                   · -- 94 t
                     first
                       | (have hz := hfin
                          refine g_aload_n0 dX6_readOwes_101 rfl ?_
                          refine g_getr dX6_readOwes_102 rfl fX6_44 hR.1 rfl ?_
                          refine g_bipushI dX6_readOwes_105 rfl rfl (fun w105 h105 => ?_)
                          refine g_iload_n1 dX6_readOwes_107 rfl ?_
                          refine g_iaddI dX6_readOwes_108 rfl ⟨by omega, by omega⟩ (fun w108 h108 => ?_)
                          refine g_iload_n2 dX6_readOwes_109 rfl ?_
                          refine g_iastI dX6_readOwes_110 rfl (rf_read hR) ⟨by omega, by omega⟩ ?_
                          rw [show w108.toInt.toNat = 24 + p0.toNat by omega]
                          refine g_vret dX6_readOwes_111 rfl ?_
                          refine ⟨rfl, ?_, frP.tr hF9 (frP.u (by omega))⟩
                          rw [heq3]
                          exact hfin)
                       | (have hz := e87
                          have hF9 := frP.tr hF4 e87.2.1.p
                          have hfin : RDP t n (.inl (4, tkB t n (tkE t n e2))) (g_u M87 408 (24 + p0.toNat) z69) := RD.u e87.1 (by decide)
                          refine g_aload_n0 dX6_readOwes_101 rfl ?_
                          refine g_getr dX6_readOwes_102 rfl fX6_44 hR.1 rfl ?_
                          refine g_bipushI dX6_readOwes_105 rfl rfl (fun w105 h105 => ?_)
                          refine g_iload_n1 dX6_readOwes_107 rfl ?_
                          refine g_iaddI dX6_readOwes_108 rfl ⟨by omega, by omega⟩ (fun w108 h108 => ?_)
                          refine g_iload_n2 dX6_readOwes_109 rfl ?_
                          refine g_iastI dX6_readOwes_110 rfl (rf_read hR) ⟨by omega, by omega⟩ ?_
                          rw [show w108.toInt.toNat = 24 + p0.toNat by omega]
                          refine g_vret dX6_readOwes_111 rfl ?_
                          refine ⟨rfl, ?_, frP.tr hF9 (frP.u (by omega))⟩
                          rw [heq3]
                          exact hfin)
                       | (exfalso; have hz := dd1; omega)
                   · -- 94 f
                     first
                       | (exfalso; have hz : (M87.1 300 21).toInt = 4 := e87.1.1; omega)
                       | (exfalso; have hz := hbq.1; have hz2 := hbq.2.1; omega)
                       | (refine g_aload_n0 dX6_readOwes_97 rfl ?_
                          refine g_callVv0 dX6_readOwes_98 rfl vX6_192 hR.1 rfl (r_stepOn hR hH4 dd8.2.2.1 dd3) (g_rm (by omega)) (Nat.le_of_ble_eq_true rfl) (fun M98 e98 => ?_)
                          have hF9 := frP.tr hF4 e98.1.t.p
                          have hfin : RDP t n (.inr (upT (upT T 4 p0.toNat v) 5 p0.toNat z69.toInt, e9)) (g_u M98 408 (24 + p0.toNat) z69) := ⟨RD.u (by rw [hpo.2.2.1]; exact RD.s e98.1 dd1 dd8.2.2.1 e98.2) (by decide), RP.oweTo (hP4.t e98.1.t) hV1 (by rw [q00]; omega)⟩
                          refine g_aload_n0 dX6_readOwes_101 rfl ?_
                          refine g_getr dX6_readOwes_102 rfl fX6_44 hR.1 rfl ?_
                          refine g_bipushI dX6_readOwes_105 rfl rfl (fun w105 h105 => ?_)
                          refine g_iload_n1 dX6_readOwes_107 rfl ?_
                          refine g_iaddI dX6_readOwes_108 rfl ⟨by omega, by omega⟩ (fun w108 h108 => ?_)
                          refine g_iload_n2 dX6_readOwes_109 rfl ?_
                          refine g_iastI dX6_readOwes_110 rfl (rf_read hR) ⟨by omega, by omega⟩ ?_
                          rw [show w108.toInt.toNat = 24 + p0.toNat by omega]
                          refine g_vret dX6_readOwes_111 rfl ?_
                          refine ⟨rfl, ?_, frP.tr hF9 (frP.u (by omega))⟩
                          rw [heq3]
                          exact hfin)
                 · -- 82 f
                   have heq3 : pOwe t n T e = .inl (4, tkB t n (tkE t n e2)) := by
                     rw [heq2, hpv]
                     show (if v9 = p0 then _ else _) = _
                     rw [if_pos (by omega)]
                   refine g_aload_n0 dX6_readOwes_85 rfl ?_
                   refine g_iconstI dX6_readOwes_86 rfl rfl (fun w86 h86 => ?_)
                   refine g_callVv1 dX6_readOwes_87 rfl vX6_195 hR.1 rfl (r_wrong hR hD5 (by omega)) (g_rm (by omega)) (Nat.le_of_ble_eq_true rfl) (fun M87 e87 => ?_)
                   rw [h86] at e87
                   refine g_aload_n0 dX6_readOwes_90 rfl ?_
                   refine g_geti dX6_readOwes_91 rfl fX6_174 hR.1 rfl ?_
                   refine g_if_neI (t := 101) dX6_readOwes_94 (by decide) rfl (fun c94 => ?_) (fun c94 => ?_)
                   · -- 94 t
                     first
                       | (have hz := hfin
                          refine g_aload_n0 dX6_readOwes_101 rfl ?_
                          refine g_getr dX6_readOwes_102 rfl fX6_44 hR.1 rfl ?_
                          refine g_bipushI dX6_readOwes_105 rfl rfl (fun w105 h105 => ?_)
                          refine g_iload_n1 dX6_readOwes_107 rfl ?_
                          refine g_iaddI dX6_readOwes_108 rfl ⟨by omega, by omega⟩ (fun w108 h108 => ?_)
                          refine g_iload_n2 dX6_readOwes_109 rfl ?_
                          refine g_iastI dX6_readOwes_110 rfl (rf_read hR) ⟨by omega, by omega⟩ ?_
                          rw [show w108.toInt.toNat = 24 + p0.toNat by omega]
                          refine g_vret dX6_readOwes_111 rfl ?_
                          refine ⟨rfl, ?_, frP.tr hF9 (frP.u (by omega))⟩
                          rw [heq3]
                          exact hfin)
                       | (have hz := e87
                          have hF9 := frP.tr hF4 e87.2.1.p
                          have hfin : RDP t n (.inl (4, tkB t n (tkE t n e2))) (g_u M87 408 (24 + p0.toNat) z69) := RD.u e87.1 (by decide)
                          refine g_aload_n0 dX6_readOwes_101 rfl ?_
                          refine g_getr dX6_readOwes_102 rfl fX6_44 hR.1 rfl ?_
                          refine g_bipushI dX6_readOwes_105 rfl rfl (fun w105 h105 => ?_)
                          refine g_iload_n1 dX6_readOwes_107 rfl ?_
                          refine g_iaddI dX6_readOwes_108 rfl ⟨by omega, by omega⟩ (fun w108 h108 => ?_)
                          refine g_iload_n2 dX6_readOwes_109 rfl ?_
                          refine g_iastI dX6_readOwes_110 rfl (rf_read hR) ⟨by omega, by omega⟩ ?_
                          rw [show w108.toInt.toNat = 24 + p0.toNat by omega]
                          refine g_vret dX6_readOwes_111 rfl ?_
                          refine ⟨rfl, ?_, frP.tr hF9 (frP.u (by omega))⟩
                          rw [heq3]
                          exact hfin)
                       | (exfalso; have hz := dd1; omega)
                   · -- 94 f
                     first
                       | (exfalso; have hz : (M87.1 300 21).toInt = 4 := e87.1.1; omega)
                       | (exfalso; have hz := hbq.1; have hz2 := hbq.2.1; omega)
                       | (refine g_aload_n0 dX6_readOwes_97 rfl ?_
                          refine g_callVv0 dX6_readOwes_98 rfl vX6_192 hR.1 rfl (r_stepOn hR hH4 dd8.2.2.1 dd3) (g_rm (by omega)) (Nat.le_of_ble_eq_true rfl) (fun M98 e98 => ?_)
                          have hF9 := frP.tr hF4 e98.1.t.p
                          have hfin : RDP t n (.inr (upT (upT T 4 p0.toNat v) 5 p0.toNat z69.toInt, e9)) (g_u M98 408 (24 + p0.toNat) z69) := ⟨RD.u (by rw [hpo.2.2.1]; exact RD.s e98.1 dd1 dd8.2.2.1 e98.2) (by decide), RP.oweTo (hP4.t e98.1.t) hV1 (by rw [q00]; omega)⟩
                          refine g_aload_n0 dX6_readOwes_101 rfl ?_
                          refine g_getr dX6_readOwes_102 rfl fX6_44 hR.1 rfl ?_
                          refine g_bipushI dX6_readOwes_105 rfl rfl (fun w105 h105 => ?_)
                          refine g_iload_n1 dX6_readOwes_107 rfl ?_
                          refine g_iaddI dX6_readOwes_108 rfl ⟨by omega, by omega⟩ (fun w108 h108 => ?_)
                          refine g_iload_n2 dX6_readOwes_109 rfl ?_
                          refine g_iastI dX6_readOwes_110 rfl (rf_read hR) ⟨by omega, by omega⟩ ?_
                          rw [show w108.toInt.toNat = 24 + p0.toNat by omega]
                          refine g_vret dX6_readOwes_111 rfl ?_
                          refine ⟨rfl, ?_, frP.tr hF9 (frP.u (by omega))⟩
                          rw [heq3]
                          exact hfin)
             · -- 64 f
               refine g_vret dX6_readOwes_67 rfl ?_
               rcases e61 with ⟨e9, h1, h2, h3, h4, h5⟩ | ⟨h1, h2, h3⟩
               · omega
               refine ⟨rfl, ?_, h3 ▸ hF3⟩
               rw [heq, h3]
               cases hx : (pNum t n (tkE t n e) 1 999) with
               | inl q => rw [hx] at hD3; exact hD3
               | inr y =>
                 obtain ⟨v, e2⟩ := y
                 rw [hx] at hD3 h1
                 rw [zbv v e2 hx] at hP3
                 show RDP t n (pIf t n e2 w_to _ _) M3
                 rw [pIf_neg (show ¬ isW t n e2 w_to from h1)]
                 exact ⟨hD3, hP3⟩)
      · -- 33 f
        first
          | (have hz := hbq
             refine g_vret dX6_readOwes_36 rfl ⟨rfl, ?_, hfq.p⟩
             rw [pOwe, hpq]; exact hz)
          | (have hz := e26
             refine g_vret dX6_readOwes_36 rfl ⟨rfl, ?_, hz.2.1.p⟩
             rw [pOwe, hpp]
             show RDP t n (if ¬ T 4 p0.toNat = 0 then _ else _) _
             rw [if_pos hne]; exact hz.1)
          | (exfalso; omega)
