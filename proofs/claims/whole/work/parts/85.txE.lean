theorem nx_num {α : Type} {t : Nat → Int} {n : Nat} {X : pR α} {M M1 : gM} {z : Int32} {a b : Int} (hD : RD t n (pRho X) M) (h : (∃ q, pRho X = .inl q ∧ M1 = M ∧ z.toInt = 0) ∨ (∃ e, pRho X = .inr e ∧ RD t n (pRho (pNum t n e a b)) M1 ∧ frT M M1 ∧ ∀ v e1, pNum t n e a b = .inr (v, e1) → z.toInt = v)) : RD t n (pRho (pBd X (fun _ e => pNum t n e a b))) M1 ∧ frT M M1 ∧ ∀ v e1, pBd X (fun _ e => pNum t n e a b) = .inr (v, e1) → z.toInt = v := by
  rcases h with ⟨q, hq, rfl, hz⟩ | ⟨e, he, h1, h2, h3⟩
  · cases X with
    | inl q2 => exact ⟨hD, frT.rf, fun v e1 h => by cases h⟩
    | inr y => cases hq
  · cases X with
    | inl q2 => cases he
    | inr y => cases he; exact ⟨h1, h2, h3⟩
theorem nx_per {α : Type} {t : Nat → Int} {n : Nat} {X : pR α} {M M1 : gM} {z : Int32} {m : Int} (hD : RD t n (pRho X) M) (h : (∃ q, pRho X = .inl q ∧ M1 = M ∧ z.toInt = 0) ∨ (∃ e, pRho X = .inr e ∧ RD t n (pRho (pPer t n e m)) M1 ∧ frT M M1 ∧ ∀ v e1, pPer t n e m = .inr (v, e1) → z.toInt = v)) : RD t n (pRho (pBd X (fun _ e => pPer t n e m))) M1 ∧ frT M M1 ∧ ∀ v e1, pBd X (fun _ e => pPer t n e m) = .inr (v, e1) → z.toInt = v := by
  rcases h with ⟨q, hq, rfl, hz⟩ | ⟨e, he, h1, h2, h3⟩
  · cases X with
    | inl q2 => exact ⟨hD, frT.rf, fun v e1 h => by cases h⟩
    | inr y => cases hq
  · cases X with
    | inl q2 => cases he
    | inr y => cases he; exact ⟨h1, h2, h3⟩
theorem RP.w {T : gTw} {M : gM} {i k : Nat} {x : Int32} (hV : PIV T) (h : RP T M) (hik : (i = 410 ∧ T 0 1 ≤ (k : Int)) ∨ (i = 405 ∧ 12 + T 0 1 ≤ (k : Int)) ∨ (i = 411 ∧ 12 + T 0 1 ≤ (k : Int)) ∨ (i = 408 ∧ T 0 1 ≤ (k : Int) ∧ k < 12)) : RP T (g_u M i k x) := by
  have hh : ∀ a b, ¬ (a = i ∧ b = k) → (g_u M i k x).1 a b = M.1 a b := fun a b q => by simp [g_u, q]
  have b0 := hV.1.1
  have b1 := hV.1.2.1
  refine RP.ext hV h (g_u_ne (by omega)) (fun p hp => ⟨hh _ _ (by omega), hh _ _ (by omega), hh _ _ (by omega)⟩) (fun p hp => ⟨hh _ _ (by omega), hh _ _ (by omega)⟩) (fun j hj => ⟨hh _ _ (by omega), hh _ _ (by omega), hh _ _ (by omega), hh _ _ (by omega)⟩)
set_option maxHeartbeats 1200000 in
theorem r_readThing {Γ : gW} {M : gM} {t : Nat → Int} {n : Nat} {T : gTw} {e : Nat} (hR : g_Ref Γ) (hH : HTx t n M) (hD : RD t n (.inr e) M) (hP : RP T M) (hV : PIV T)  : Ct Γ yX6_readThing μX6_readThing 6 [.ref 300] M (g_qv (fun M1 => RDP t n (pThg t n T e) M1 ∧ frP M M1)) := by
  have b0 := hV.1.1
  have b1 := hV.1.2.1
  have hp0 := hP.2.1
  obtain ⟨d1, d2, d3, d4, d5, d6, d7⟩ := id hD
  have d8 := tk_rng (t := t) d2
  refine g_enter rfl rfl rfl (Nat.le_of_ble_eq_true rfl) ?_
  show G Γ _ _ _ _ 0 [some (.ref 300), none] [] M
  refine g_aload_n0 dX6_readThing_0 rfl ?_
  refine g_getr dX6_readThing_1 rfl fX6_25 hR.1 rfl ?_
  refine g_iconstI dX6_readThing_4 rfl rfl (fun w4 h4 => ?_)
  refine g_ialdI dX6_readThing_5 rfl (rf_told hR) ⟨by omega, by omega⟩ ?_
  rw [show w4.toInt.toNat = 5 by omega]
  refine g_bipushI dX6_readThing_6 rfl rfl (fun w6 h6 => ?_)
  refine g_icmp_neI (t := 16) dX6_readThing_8 (by decide) rfl (fun c8 => ?_) (fun c8 => ?_)
  · -- 8 t
    refine g_aload_n0 dX6_readThing_16 rfl ?_
    refine g_geti dX6_readThing_17 rfl fX6_174 hR.1 rfl ?_
    refine g_if_eqI (t := 24) dX6_readThing_20 (by decide) rfl (fun c20 => ?_) (fun c20 => ?_)
    · -- 20 t
      first
        | (exfalso; have hz : (M13.1 300 21).toInt = 2 := e13.1.1; omega)
        | (refine g_aload_n0 dX6_readThing_24 rfl ?_
           refine g_callVv0 dX6_readThing_25 rfl vX6_192 hR.1 rfl (r_stepOn hR hH d8.2.2.1 d3) (g_rm (by omega)) (Nat.le_of_ble_eq_true rfl) (fun M25 e25 => ?_)
           have hH2 := hH.s e25.1
           have hD2 := RD.s e25.1 d1 d8.2.2.1 e25.2
           have hP2 := hP.t e25.1.t
           have hF2 := e25.1.t.p
           have hp2 := hP2.2.1
           refine g_aload_n0 dX6_readThing_28 rfl ?_
           refine g_getr dX6_readThing_29 rfl fX6_25 hR.1 rfl ?_
           refine g_iconstI dX6_readThing_32 rfl rfl (fun w32 h32 => ?_)
           refine g_ialdI dX6_readThing_33 rfl (rf_told hR) ⟨by omega, by omega⟩ ?_
           rw [show w32.toInt.toNat = 5 by omega]
           refine g_istore_n1 dX6_readThing_34 rfl rfl ?_
           refine g_aload_n0 dX6_readThing_35 rfl ?_
           refine g_getr dX6_readThing_36 rfl fX6_50 hR.1 rfl ?_
           refine g_iload_n1 dX6_readThing_39 rfl ?_
           refine g_aload_n0 dX6_readThing_40 rfl ?_
           refine g_iconstI dX6_readThing_41 rfl rfl (fun w41 h41 => ?_)
           refine g_bipushI dX6_readThing_42 rfl rfl (fun w42 h42 => ?_)
           refine g_callVi2 dX6_readThing_44 rfl vX6_207 hR.1 rfl (r_readNumber (ρ := pRho (α := Unit) (.inr ((), tkE t n e))) hR hH2 hD2) (g_rm (by omega)) (Nat.le_of_ble_eq_true rfl) (fun z44 M44 e44 => ?_)
           rw [h41, h42] at e44
           obtain ⟨hDb, fb, zbv⟩ := nx_num (X := (.inr ((), tkE t n e) : pR Unit)) hD2 e44
           replace hDb : RD t n (pRho (pNum t n (tkE t n e) 1 99)) M44 := hDb
           replace zbv : ∀ v e1, (pNum t n (tkE t n e) 1 99) = .inr (v, e1) → z44.toInt = v := zbv
           have hPb := hP2.t fb
           have hFb := frP.tr hF2 fb.p
           refine g_iastI dX6_readThing_47 rfl (rf_readWeight hR) ⟨by omega, by omega⟩ ?_
           rw [show (M25.1 402 5).toInt.toNat = (T 0 1).toNat by omega]
           obtain ⟨Mc, hMc⟩ : ∃ Mc, Mc = g_u M44 410 ((T 0 1).toNat) z44 := ⟨_, rfl⟩
           refine g_fwd (M1 := Mc) ?_ hMc
           have hPc : RP T Mc := by rw [hMc]; exact RP.w hV hPb (by omega)
           have hFc : frP M Mc := by rw [hMc]; exact frP.tr hFb (frP.u (by omega))
           have hHc := hH.p hFc
           have hDc : RD t n (pRho (pNum t n (tkE t n e) 1 99)) Mc := by rw [hMc]; exact RD.u hDb (by decide)
           have vc : (Mc.1 410 ((T 0 1).toNat)).toInt = z44.toInt := by rw [hMc, g_u_eq, if_pos rfl]
           
           clear hMc
           have kwc := vc
           refine g_aload_n0 dX6_readThing_48 rfl ?_
           refine g_getr dX6_readThing_49 rfl fX6_35 hR.1 rfl ?_
           refine g_bipushI dX6_readThing_52 rfl rfl (fun w52 h52 => ?_)
           refine g_iload_n1 dX6_readThing_54 rfl ?_
           refine g_iaddI dX6_readThing_55 rfl ⟨by omega, by omega⟩ (fun w55 h55 => ?_)
           refine g_aload_n0 dX6_readThing_56 rfl ?_
           refine g_iconstI dX6_readThing_57 rfl rfl (fun w57 h57 => ?_)
           refine g_sipushI dX6_readThing_58 rfl rfl (fun w58 h58 => ?_)
           refine g_callVi2 dX6_readThing_61 rfl vX6_207 hR.1 rfl (r_readNumber hR hHc hDc) (g_rm (by omega)) (Nat.le_of_ble_eq_true rfl) (fun z61 M61 e61 => ?_)
           rw [h57, h58] at e61
           obtain ⟨hDd, fd, zdv⟩ := nx_num hDc e61
           have hPd := hPc.t fd
           have hFd := frP.tr hFc fd.p
           have kwd : (M61.1 410 ((T 0 1).toNat)).toInt = z44.toInt := by rw [fd.1 410 (by decide)]; exact kwc
           refine g_iastI dX6_readThing_64 rfl (rf_worth hR) ⟨by omega, by omega⟩ ?_
           rw [show w55.toInt.toNat = 12 + (T 0 1).toNat by omega]
           obtain ⟨Mf, hMf⟩ : ∃ Mf, Mf = g_u M61 405 (12 + (T 0 1).toNat) z61 := ⟨_, rfl⟩
           refine g_fwd (M1 := Mf) ?_ hMf
           have hPf : RP T Mf := by rw [hMf]; exact RP.w hV hPd (by omega)
           have hFf : frP M Mf := by rw [hMf]; exact frP.tr hFd (frP.u (by omega))
           have hHf := hH.p hFf
           have hDf : RD t n (pRho (pBd (pNum t n (tkE t n e) 1 99) (fun _ e => pNum t n e 0 999))) Mf := by rw [hMf]; exact RD.u hDd (by decide)
           have vf : (Mf.1 405 (12 + (T 0 1).toNat)).toInt = z61.toInt := by rw [hMf, g_u_eq, if_pos rfl]
           have kwf : (Mf.1 410 ((T 0 1).toNat)).toInt = z44.toInt := by rw [hMf, g_u_ne (by decide)]; exact kwd
           clear hMf
           have kvf := vf
           refine g_aload_n0 dX6_readThing_65 rfl ?_
           refine g_getr dX6_readThing_66 rfl fX6_44 hR.1 rfl ?_
           refine g_iload_n1 dX6_readThing_69 rfl ?_
           refine g_aload_n0 dX6_readThing_70 rfl ?_
           refine g_callVi0 dX6_readThing_71 rfl vX6_210 hR.1 rfl (r_readPerson hR hHf hDf hPf.1) (g_rm (by omega)) (Nat.le_of_ble_eq_true rfl) (fun z71 M71 e71 => ?_)
           obtain ⟨hDg, fg, zgv⟩ := nx_per hDf e71
           have hPg := hPf.t fg
           have hFg := frP.tr hFf fg.p
           have kwg : (M71.1 410 ((T 0 1).toNat)).toInt = z44.toInt := by rw [fg.1 410 (by decide)]; exact kwf
           have kvg : (M71.1 405 (12 + (T 0 1).toNat)).toInt = z61.toInt := by rw [fg.1 405 (by decide)]; exact kvf
           refine g_iastI dX6_readThing_74 rfl (rf_read hR) ⟨by omega, by omega⟩ ?_
           rw [show (M25.1 402 5).toInt.toNat = (T 0 1).toNat by omega]
           obtain ⟨Mi, hMi⟩ : ∃ Mi, Mi = g_u M71 408 ((T 0 1).toNat) z71 := ⟨_, rfl⟩
           refine g_fwd (M1 := Mi) ?_ hMi
           have hPi : RP T Mi := by rw [hMi]; exact RP.w hV hPg (by omega)
           have hFi : frP M Mi := by rw [hMi]; exact frP.tr hFg (frP.u (by omega))
           have hHi := hH.p hFi
           have hDi : RD t n (pRho (pBd (pBd (pNum t n (tkE t n e) 1 99) (fun _ e => pNum t n e 0 999)) (fun _ e => pPer t n e (T 0 0)))) Mi := by rw [hMi]; exact RD.u hDg (by decide)
           have vi : (Mi.1 408 ((T 0 1).toNat)).toInt = z71.toInt := by rw [hMi, g_u_eq, if_pos rfl]
           have kwi : (Mi.1 410 ((T 0 1).toNat)).toInt = z44.toInt := by rw [hMi, g_u_ne (by decide)]; exact kwg
           have kvi : (Mi.1 405 (12 + (T 0 1).toNat)).toInt = z61.toInt := by rw [hMi, g_u_ne (by decide)]; exact kvg
           clear hMi
           have khi := vi
           refine g_aload_n0 dX6_readThing_75 rfl ?_
           refine g_getr dX6_readThing_76 rfl fX6_53 hR.1 rfl ?_
           refine g_bipushI dX6_readThing_79 rfl rfl (fun w79 h79 => ?_)
           refine g_iload_n1 dX6_readThing_81 rfl ?_
           refine g_iaddI dX6_readThing_82 rfl ⟨by omega, by omega⟩ (fun w82 h82 => ?_)
           refine g_aload_n0 dX6_readThing_83 rfl ?_
           refine g_ldcS (c := 25) dX6_readThing_84 rfl rfl ?_
           refine g_callVi1 dX6_readThing_86 rfl vX6_204 hR.1 rfl (r_passes (c := 25) hR hHi hDi rfl) (g_rm (by omega)) (Nat.le_of_ble_eq_true rfl) (fun z86 M86 e86 => ?_)
           obtain ⟨b86, f86, hw86⟩ : (z86.toInt = 0 ∨ z86.toInt = 1) ∧ frT Mi M86 ∧ True := by
             rcases e86 with ⟨e9, h1, h2, h3, h4, h5⟩ | ⟨h1, h2, h3⟩
             · exact ⟨Or.inr h3, h5, trivial⟩
             · exact ⟨Or.inl h2, h3 ▸ frT.rf, trivial⟩
           have hPj := hPi.t f86
           have hFj := frP.tr hFi f86.p
           have kwj : (M86.1 410 ((T 0 1).toNat)).toInt = z44.toInt := by rw [f86.1 410 (by decide)]; exact kwi
           have kvj : (M86.1 405 (12 + (T 0 1).toNat)).toInt = z61.toInt := by rw [f86.1 405 (by decide)]; exact kvi
           have khj : (M86.1 408 ((T 0 1).toNat)).toInt = z71.toInt := by rw [f86.1 408 (by decide)]; exact khi
           refine g_zastI dX6_readThing_89 rfl (rf_isWet hR) ⟨by omega, by omega⟩ ?_
           rw [nar_z b86]
           rw [show w82.toInt.toNat = 12 + (T 0 1).toNat by omega]
           obtain ⟨Mk, hMk⟩ : ∃ Mk, Mk = g_u M86 411 (12 + (T 0 1).toNat) z86 := ⟨_, rfl⟩
           refine g_fwd (M1 := Mk) ?_ hMk
           have hPk : RP T Mk := by rw [hMk]; exact RP.w hV hPj (by omega)
           have hFk : frP M Mk := by rw [hMk]; exact frP.tr hFj (frP.u (by omega))
           have e300 : ∀ ρ, RD t n ρ M86 → RD t n ρ Mk := fun ρ h => by rw [hMk]; exact RD.u h (by decide)
           have kbk : (Mk.1 411 (12 + (T 0 1).toNat)).toInt = z86.toInt := by rw [hMk, g_u_eq, if_pos rfl]
           have kwk : (Mk.1 410 ((T 0 1).toNat)).toInt = z44.toInt := by rw [hMk, g_u_ne (by decide)]; exact kwj
           have kvk : (Mk.1 405 (12 + (T 0 1).toNat)).toInt = z61.toInt := by rw [hMk, g_u_ne (by decide)]; exact kvj
           have khk : (Mk.1 408 ((T 0 1).toNat)).toInt = z71.toInt := by rw [hMk, g_u_ne (by decide)]; exact khj
           clear hMk
           have hm := hPk.2.1
           refine g_aload_n0 dX6_readThing_90 rfl ?_
           refine g_getr dX6_readThing_91 rfl fX6_25 hR.1 rfl ?_
           refine g_iconstI dX6_readThing_94 rfl rfl (fun w94 h94 => ?_)
           refine g_dup2 dX6_readThing_95 rfl rfl rfl ?_
           refine g_ialdI dX6_readThing_96 rfl (rf_told hR) ⟨by omega, by omega⟩ ?_
           rw [show w94.toInt.toNat = 5 by omega]
           refine g_iconstI dX6_readThing_97 rfl rfl (fun w97 h97 => ?_)
           refine g_iaddI dX6_readThing_98 rfl ⟨by omega, by omega⟩ (fun w98 h98 => ?_)
           refine g_iastI dX6_readThing_99 rfl (rf_told hR) ⟨by omega, by omega⟩ ?_
           rw [show w94.toInt.toNat = 5 by omega]
           refine g_vret dX6_readThing_100 rfl ?_
           refine ⟨rfl, ?_, frP.tr hFk (frP.u (by omega))⟩
           have hT : pThg t n T e = pBd (pNum t n (tkE t n e) 1 99) (fun w e1 => pBd (pNum t n e1 0 999) (fun v e2 => pBd (pPer t n e2 (T 0 0)) (fun h e3 => pIf t n e3 w_wet (.inr (addTT T w v h.toNat true, tkE t n e3)) (.inr (addTT T w v h.toNat false, e3))))) := by rw [pThg, if_neg (by omega)]
           rw [hT]
           have hu : ∀ ρ x, RD t n ρ Mk → RD t n ρ (g_u Mk 402 5 x) := fun ρ x h => RD.u h (by decide)
           cases hy1 : (pNum t n (tkE t n e) 1 99) with
           | inl q =>
             rw [hy1] at hDi e86
             rcases e86 with ⟨e9, h1, -⟩ | ⟨h1, h2, h3⟩
             · cases h1
             · exact hu _ _ (e300 _ (h3 ▸ hDi))
           | inr y1 =>
             obtain ⟨w, e1⟩ := y1
             rw [hy1] at hDi e86 zgv zdv
             show RDP t n (pBd (pNum t n e1 0 999) (fun v e2 => pBd (pPer t n e2 (T 0 0)) (fun h e3 => pIf t n e3 w_wet (.inr (addTT T w v h.toNat true, tkE t n e3)) (.inr (addTT T w v h.toNat false, e3))))) _
             replace hDi : RD t n (pRho (pBd (pNum t n e1 0 999) (fun _ e => pPer t n e (T 0 0)))) Mi := hDi
             replace zdv : ∀ v e2, pNum t n e1 0 999 = .inr (v, e2) → z61.toInt = v := zdv
             replace zgv : ∀ v e2, pBd (pNum t n e1 0 999) (fun _ e => pPer t n e (T 0 0)) = .inr (v, e2) → z71.toInt = v := zgv
             replace e86 : (∃ e9, pRho (pBd (pNum t n e1 0 999) (fun _ e => pPer t n e (T 0 0))) = .inr e9 ∧ isW t n e9 w_wet ∧ z86.toInt = 1 ∧ RD t n (.inr (tkE t n e9)) M86 ∧ frT Mi M86) ∨ (¬ isR t n (pRho (pBd (pNum t n e1 0 999) (fun _ e => pPer t n e (T 0 0)))) w_wet ∧ z86.toInt = 0 ∧ M86 = Mi) := e86
             cases hy2 : pNum t n e1 0 999 with
             | inl q =>
               rw [hy2] at hDi e86
               rcases e86 with ⟨e9, h1, -⟩ | ⟨h1, h2, h3⟩
               · cases h1
               · exact hu _ _ (e300 _ (h3 ▸ hDi))
             | inr y2 =>
               obtain ⟨v, e2⟩ := y2
               rw [hy2] at hDi e86 zgv
               replace hDi : RD t n (pRho (pPer t n e2 (T 0 0))) Mi := hDi
               replace zgv : ∀ v e3, pPer t n e2 (T 0 0) = .inr (v, e3) → z71.toInt = v := zgv
               replace e86 : (∃ e9, pRho (pPer t n e2 (T 0 0)) = .inr e9 ∧ isW t n e9 w_wet ∧ z86.toInt = 1 ∧ RD t n (.inr (tkE t n e9)) M86 ∧ frT Mi M86) ∨ (¬ isR t n (pRho (pPer t n e2 (T 0 0))) w_wet ∧ z86.toInt = 0 ∧ M86 = Mi) := e86
               show RDP t n (pBd (pPer t n e2 (T 0 0)) (fun h e3 => pIf t n e3 w_wet (.inr (addTT T w v h.toNat true, tkE t n e3)) (.inr (addTT T w v h.toNat false, e3)))) _
               cases hy3 : pPer t n e2 (T 0 0) with
               | inl q =>
                 rw [hy3] at hDi e86
                 rcases e86 with ⟨e9, h1, -⟩ | ⟨h1, h2, h3⟩
                 · cases h1
                 · exact hu _ _ (e300 _ (h3 ▸ hDi))
               | inr y3 =>
                 obtain ⟨p, e3⟩ := y3
                 rw [hy3] at hDi e86
                 have q1 := zbv w e1 hy1
                 have q2 := zdv v e2 hy2
                 have q3 := zgv p e3 hy3
                 have q4 := pPer_ok hy3
                 show RDP t n (pIf t n e3 w_wet (.inr (addTT T w v p.toNat true, tkE t n e3)) (.inr (addTT T w v p.toNat false, e3))) _
                 rcases e86 with ⟨e9, h1, h2, h3, h4, -⟩ | ⟨h1, h2, h3⟩
                 · cases h1
                   rw [pIf_pos h2]
                   exact ⟨hu _ _ (e300 _ h4), RP.thg hV hPk (by omega) (by omega) (by omega) (by omega) (by omega) (by rw [kbk, h3]; rfl) (by omega)⟩
                 · rw [pIf_neg h1]
                   exact ⟨hu _ _ (e300 _ (h3 ▸ hDi)), RP.thg hV hPk (by omega) (by omega) (by omega) (by omega) (by omega) (by rw [kbk, h2]; rfl) (by omega)⟩)
    · -- 20 f
      first
        | (have hz := e13
           refine g_vret dX6_readThing_23 rfl ⟨rfl, ?_, hz.2.1.p⟩
           rw [pThg, if_pos (by omega)]
           exact hz.1)
        | (exfalso; omega)
  · -- 8 f
    refine g_aload_n0 dX6_readThing_11 rfl ?_
    refine g_iconstI dX6_readThing_12 rfl rfl (fun w12 h12 => ?_)
    refine g_callVv1 dX6_readThing_13 rfl vX6_195 hR.1 rfl (r_wrong hR hD (by omega)) (g_rm (by omega)) (Nat.le_of_ble_eq_true rfl) (fun M13 e13 => ?_)
    rw [h12] at e13
    refine g_aload_n0 dX6_readThing_16 rfl ?_
    refine g_geti dX6_readThing_17 rfl fX6_174 hR.1 rfl ?_
    refine g_if_eqI (t := 24) dX6_readThing_20 (by decide) rfl (fun c20 => ?_) (fun c20 => ?_)
    · -- 20 t
      first
        | (exfalso; have hz : (M13.1 300 21).toInt = 2 := e13.1.1; omega)
        | (refine g_aload_n0 dX6_readThing_24 rfl ?_
           refine g_callVv0 dX6_readThing_25 rfl vX6_192 hR.1 rfl (r_stepOn hR hH d8.2.2.1 d3) (g_rm (by omega)) (Nat.le_of_ble_eq_true rfl) (fun M25 e25 => ?_)
           have hH2 := hH.s e25.1
           have hD2 := RD.s e25.1 d1 d8.2.2.1 e25.2
           have hP2 := hP.t e25.1.t
           have hF2 := e25.1.t.p
           have hp2 := hP2.2.1
           refine g_aload_n0 dX6_readThing_28 rfl ?_
           refine g_getr dX6_readThing_29 rfl fX6_25 hR.1 rfl ?_
           refine g_iconstI dX6_readThing_32 rfl rfl (fun w32 h32 => ?_)
           refine g_ialdI dX6_readThing_33 rfl (rf_told hR) ⟨by omega, by omega⟩ ?_
           rw [show w32.toInt.toNat = 5 by omega]
           refine g_istore_n1 dX6_readThing_34 rfl rfl ?_
           refine g_aload_n0 dX6_readThing_35 rfl ?_
           refine g_getr dX6_readThing_36 rfl fX6_50 hR.1 rfl ?_
           refine g_iload_n1 dX6_readThing_39 rfl ?_
           refine g_aload_n0 dX6_readThing_40 rfl ?_
           refine g_iconstI dX6_readThing_41 rfl rfl (fun w41 h41 => ?_)
           refine g_bipushI dX6_readThing_42 rfl rfl (fun w42 h42 => ?_)
           refine g_callVi2 dX6_readThing_44 rfl vX6_207 hR.1 rfl (r_readNumber (ρ := pRho (α := Unit) (.inr ((), tkE t n e))) hR hH2 hD2) (g_rm (by omega)) (Nat.le_of_ble_eq_true rfl) (fun z44 M44 e44 => ?_)
           rw [h41, h42] at e44
           obtain ⟨hDb, fb, zbv⟩ := nx_num (X := (.inr ((), tkE t n e) : pR Unit)) hD2 e44
           replace hDb : RD t n (pRho (pNum t n (tkE t n e) 1 99)) M44 := hDb
           replace zbv : ∀ v e1, (pNum t n (tkE t n e) 1 99) = .inr (v, e1) → z44.toInt = v := zbv
           have hPb := hP2.t fb
           have hFb := frP.tr hF2 fb.p
           refine g_iastI dX6_readThing_47 rfl (rf_readWeight hR) ⟨by omega, by omega⟩ ?_
           rw [show (M25.1 402 5).toInt.toNat = (T 0 1).toNat by omega]
           obtain ⟨Mc, hMc⟩ : ∃ Mc, Mc = g_u M44 410 ((T 0 1).toNat) z44 := ⟨_, rfl⟩
           refine g_fwd (M1 := Mc) ?_ hMc
           have hPc : RP T Mc := by rw [hMc]; exact RP.w hV hPb (by omega)
           have hFc : frP M Mc := by rw [hMc]; exact frP.tr hFb (frP.u (by omega))
           have hHc := hH.p hFc
           have hDc : RD t n (pRho (pNum t n (tkE t n e) 1 99)) Mc := by rw [hMc]; exact RD.u hDb (by decide)
           have vc : (Mc.1 410 ((T 0 1).toNat)).toInt = z44.toInt := by rw [hMc, g_u_eq, if_pos rfl]
           
           clear hMc
           have kwc := vc
           refine g_aload_n0 dX6_readThing_48 rfl ?_
           refine g_getr dX6_readThing_49 rfl fX6_35 hR.1 rfl ?_
           refine g_bipushI dX6_readThing_52 rfl rfl (fun w52 h52 => ?_)
           refine g_iload_n1 dX6_readThing_54 rfl ?_
           refine g_iaddI dX6_readThing_55 rfl ⟨by omega, by omega⟩ (fun w55 h55 => ?_)
           refine g_aload_n0 dX6_readThing_56 rfl ?_
           refine g_iconstI dX6_readThing_57 rfl rfl (fun w57 h57 => ?_)
           refine g_sipushI dX6_readThing_58 rfl rfl (fun w58 h58 => ?_)
           refine g_callVi2 dX6_readThing_61 rfl vX6_207 hR.1 rfl (r_readNumber hR hHc hDc) (g_rm (by omega)) (Nat.le_of_ble_eq_true rfl) (fun z61 M61 e61 => ?_)
           rw [h57, h58] at e61
           obtain ⟨hDd, fd, zdv⟩ := nx_num hDc e61
           have hPd := hPc.t fd
           have hFd := frP.tr hFc fd.p
           have kwd : (M61.1 410 ((T 0 1).toNat)).toInt = z44.toInt := by rw [fd.1 410 (by decide)]; exact kwc
           refine g_iastI dX6_readThing_64 rfl (rf_worth hR) ⟨by omega, by omega⟩ ?_
           rw [show w55.toInt.toNat = 12 + (T 0 1).toNat by omega]
           obtain ⟨Mf, hMf⟩ : ∃ Mf, Mf = g_u M61 405 (12 + (T 0 1).toNat) z61 := ⟨_, rfl⟩
           refine g_fwd (M1 := Mf) ?_ hMf
           have hPf : RP T Mf := by rw [hMf]; exact RP.w hV hPd (by omega)
           have hFf : frP M Mf := by rw [hMf]; exact frP.tr hFd (frP.u (by omega))
           have hHf := hH.p hFf
           have hDf : RD t n (pRho (pBd (pNum t n (tkE t n e) 1 99) (fun _ e => pNum t n e 0 999))) Mf := by rw [hMf]; exact RD.u hDd (by decide)
           have vf : (Mf.1 405 (12 + (T 0 1).toNat)).toInt = z61.toInt := by rw [hMf, g_u_eq, if_pos rfl]
           have kwf : (Mf.1 410 ((T 0 1).toNat)).toInt = z44.toInt := by rw [hMf, g_u_ne (by decide)]; exact kwd
           clear hMf
           have kvf := vf
           refine g_aload_n0 dX6_readThing_65 rfl ?_
           refine g_getr dX6_readThing_66 rfl fX6_44 hR.1 rfl ?_
           refine g_iload_n1 dX6_readThing_69 rfl ?_
           refine g_aload_n0 dX6_readThing_70 rfl ?_
           refine g_callVi0 dX6_readThing_71 rfl vX6_210 hR.1 rfl (r_readPerson hR hHf hDf hPf.1) (g_rm (by omega)) (Nat.le_of_ble_eq_true rfl) (fun z71 M71 e71 => ?_)
           obtain ⟨hDg, fg, zgv⟩ := nx_per hDf e71
           have hPg := hPf.t fg
           have hFg := frP.tr hFf fg.p
           have kwg : (M71.1 410 ((T 0 1).toNat)).toInt = z44.toInt := by rw [fg.1 410 (by decide)]; exact kwf
           have kvg : (M71.1 405 (12 + (T 0 1).toNat)).toInt = z61.toInt := by rw [fg.1 405 (by decide)]; exact kvf
           refine g_iastI dX6_readThing_74 rfl (rf_read hR) ⟨by omega, by omega⟩ ?_
           rw [show (M25.1 402 5).toInt.toNat = (T 0 1).toNat by omega]
           obtain ⟨Mi, hMi⟩ : ∃ Mi, Mi = g_u M71 408 ((T 0 1).toNat) z71 := ⟨_, rfl⟩
           refine g_fwd (M1 := Mi) ?_ hMi
           have hPi : RP T Mi := by rw [hMi]; exact RP.w hV hPg (by omega)
           have hFi : frP M Mi := by rw [hMi]; exact frP.tr hFg (frP.u (by omega))
           have hHi := hH.p hFi
           have hDi : RD t n (pRho (pBd (pBd (pNum t n (tkE t n e) 1 99) (fun _ e => pNum t n e 0 999)) (fun _ e => pPer t n e (T 0 0)))) Mi := by rw [hMi]; exact RD.u hDg (by decide)
           have vi : (Mi.1 408 ((T 0 1).toNat)).toInt = z71.toInt := by rw [hMi, g_u_eq, if_pos rfl]
           have kwi : (Mi.1 410 ((T 0 1).toNat)).toInt = z44.toInt := by rw [hMi, g_u_ne (by decide)]; exact kwg
           have kvi : (Mi.1 405 (12 + (T 0 1).toNat)).toInt = z61.toInt := by rw [hMi, g_u_ne (by decide)]; exact kvg
           clear hMi
           have khi := vi
           refine g_aload_n0 dX6_readThing_75 rfl ?_
           refine g_getr dX6_readThing_76 rfl fX6_53 hR.1 rfl ?_
           refine g_bipushI dX6_readThing_79 rfl rfl (fun w79 h79 => ?_)
           refine g_iload_n1 dX6_readThing_81 rfl ?_
           refine g_iaddI dX6_readThing_82 rfl ⟨by omega, by omega⟩ (fun w82 h82 => ?_)
           refine g_aload_n0 dX6_readThing_83 rfl ?_
           refine g_ldcS (c := 25) dX6_readThing_84 rfl rfl ?_
           refine g_callVi1 dX6_readThing_86 rfl vX6_204 hR.1 rfl (r_passes (c := 25) hR hHi hDi rfl) (g_rm (by omega)) (Nat.le_of_ble_eq_true rfl) (fun z86 M86 e86 => ?_)
           obtain ⟨b86, f86, hw86⟩ : (z86.toInt = 0 ∨ z86.toInt = 1) ∧ frT Mi M86 ∧ True := by
             rcases e86 with ⟨e9, h1, h2, h3, h4, h5⟩ | ⟨h1, h2, h3⟩
             · exact ⟨Or.inr h3, h5, trivial⟩
             · exact ⟨Or.inl h2, h3 ▸ frT.rf, trivial⟩
           have hPj := hPi.t f86
           have hFj := frP.tr hFi f86.p
           have kwj : (M86.1 410 ((T 0 1).toNat)).toInt = z44.toInt := by rw [f86.1 410 (by decide)]; exact kwi
           have kvj : (M86.1 405 (12 + (T 0 1).toNat)).toInt = z61.toInt := by rw [f86.1 405 (by decide)]; exact kvi
           have khj : (M86.1 408 ((T 0 1).toNat)).toInt = z71.toInt := by rw [f86.1 408 (by decide)]; exact khi
           refine g_zastI dX6_readThing_89 rfl (rf_isWet hR) ⟨by omega, by omega⟩ ?_
           rw [nar_z b86]
           rw [show w82.toInt.toNat = 12 + (T 0 1).toNat by omega]
           obtain ⟨Mk, hMk⟩ : ∃ Mk, Mk = g_u M86 411 (12 + (T 0 1).toNat) z86 := ⟨_, rfl⟩
           refine g_fwd (M1 := Mk) ?_ hMk
           have hPk : RP T Mk := by rw [hMk]; exact RP.w hV hPj (by omega)
           have hFk : frP M Mk := by rw [hMk]; exact frP.tr hFj (frP.u (by omega))
           have e300 : ∀ ρ, RD t n ρ M86 → RD t n ρ Mk := fun ρ h => by rw [hMk]; exact RD.u h (by decide)
           have kbk : (Mk.1 411 (12 + (T 0 1).toNat)).toInt = z86.toInt := by rw [hMk, g_u_eq, if_pos rfl]
           have kwk : (Mk.1 410 ((T 0 1).toNat)).toInt = z44.toInt := by rw [hMk, g_u_ne (by decide)]; exact kwj
           have kvk : (Mk.1 405 (12 + (T 0 1).toNat)).toInt = z61.toInt := by rw [hMk, g_u_ne (by decide)]; exact kvj
           have khk : (Mk.1 408 ((T 0 1).toNat)).toInt = z71.toInt := by rw [hMk, g_u_ne (by decide)]; exact khj
           clear hMk
           have hm := hPk.2.1
           refine g_aload_n0 dX6_readThing_90 rfl ?_
           refine g_getr dX6_readThing_91 rfl fX6_25 hR.1 rfl ?_
           refine g_iconstI dX6_readThing_94 rfl rfl (fun w94 h94 => ?_)
           refine g_dup2 dX6_readThing_95 rfl rfl rfl ?_
           refine g_ialdI dX6_readThing_96 rfl (rf_told hR) ⟨by omega, by omega⟩ ?_
           rw [show w94.toInt.toNat = 5 by omega]
           refine g_iconstI dX6_readThing_97 rfl rfl (fun w97 h97 => ?_)
           refine g_iaddI dX6_readThing_98 rfl ⟨by omega, by omega⟩ (fun w98 h98 => ?_)
           refine g_iastI dX6_readThing_99 rfl (rf_told hR) ⟨by omega, by omega⟩ ?_
           rw [show w94.toInt.toNat = 5 by omega]
           refine g_vret dX6_readThing_100 rfl ?_
           refine ⟨rfl, ?_, frP.tr hFk (frP.u (by omega))⟩
           have hT : pThg t n T e = pBd (pNum t n (tkE t n e) 1 99) (fun w e1 => pBd (pNum t n e1 0 999) (fun v e2 => pBd (pPer t n e2 (T 0 0)) (fun h e3 => pIf t n e3 w_wet (.inr (addTT T w v h.toNat true, tkE t n e3)) (.inr (addTT T w v h.toNat false, e3))))) := by rw [pThg, if_neg (by omega)]
           rw [hT]
           have hu : ∀ ρ x, RD t n ρ Mk → RD t n ρ (g_u Mk 402 5 x) := fun ρ x h => RD.u h (by decide)
           cases hy1 : (pNum t n (tkE t n e) 1 99) with
           | inl q =>
             rw [hy1] at hDi e86
             rcases e86 with ⟨e9, h1, -⟩ | ⟨h1, h2, h3⟩
             · cases h1
             · exact hu _ _ (e300 _ (h3 ▸ hDi))
           | inr y1 =>
             obtain ⟨w, e1⟩ := y1
             rw [hy1] at hDi e86 zgv zdv
             show RDP t n (pBd (pNum t n e1 0 999) (fun v e2 => pBd (pPer t n e2 (T 0 0)) (fun h e3 => pIf t n e3 w_wet (.inr (addTT T w v h.toNat true, tkE t n e3)) (.inr (addTT T w v h.toNat false, e3))))) _
             replace hDi : RD t n (pRho (pBd (pNum t n e1 0 999) (fun _ e => pPer t n e (T 0 0)))) Mi := hDi
             replace zdv : ∀ v e2, pNum t n e1 0 999 = .inr (v, e2) → z61.toInt = v := zdv
             replace zgv : ∀ v e2, pBd (pNum t n e1 0 999) (fun _ e => pPer t n e (T 0 0)) = .inr (v, e2) → z71.toInt = v := zgv
             replace e86 : (∃ e9, pRho (pBd (pNum t n e1 0 999) (fun _ e => pPer t n e (T 0 0))) = .inr e9 ∧ isW t n e9 w_wet ∧ z86.toInt = 1 ∧ RD t n (.inr (tkE t n e9)) M86 ∧ frT Mi M86) ∨ (¬ isR t n (pRho (pBd (pNum t n e1 0 999) (fun _ e => pPer t n e (T 0 0)))) w_wet ∧ z86.toInt = 0 ∧ M86 = Mi) := e86
             cases hy2 : pNum t n e1 0 999 with
             | inl q =>
               rw [hy2] at hDi e86
               rcases e86 with ⟨e9, h1, -⟩ | ⟨h1, h2, h3⟩
               · cases h1
               · exact hu _ _ (e300 _ (h3 ▸ hDi))
             | inr y2 =>
               obtain ⟨v, e2⟩ := y2
               rw [hy2] at hDi e86 zgv
               replace hDi : RD t n (pRho (pPer t n e2 (T 0 0))) Mi := hDi
               replace zgv : ∀ v e3, pPer t n e2 (T 0 0) = .inr (v, e3) → z71.toInt = v := zgv
               replace e86 : (∃ e9, pRho (pPer t n e2 (T 0 0)) = .inr e9 ∧ isW t n e9 w_wet ∧ z86.toInt = 1 ∧ RD t n (.inr (tkE t n e9)) M86 ∧ frT Mi M86) ∨ (¬ isR t n (pRho (pPer t n e2 (T 0 0))) w_wet ∧ z86.toInt = 0 ∧ M86 = Mi) := e86
               show RDP t n (pBd (pPer t n e2 (T 0 0)) (fun h e3 => pIf t n e3 w_wet (.inr (addTT T w v h.toNat true, tkE t n e3)) (.inr (addTT T w v h.toNat false, e3)))) _
               cases hy3 : pPer t n e2 (T 0 0) with
               | inl q =>
                 rw [hy3] at hDi e86
                 rcases e86 with ⟨e9, h1, -⟩ | ⟨h1, h2, h3⟩
                 · cases h1
                 · exact hu _ _ (e300 _ (h3 ▸ hDi))
               | inr y3 =>
                 obtain ⟨p, e3⟩ := y3
                 rw [hy3] at hDi e86
                 have q1 := zbv w e1 hy1
                 have q2 := zdv v e2 hy2
                 have q3 := zgv p e3 hy3
                 have q4 := pPer_ok hy3
                 show RDP t n (pIf t n e3 w_wet (.inr (addTT T w v p.toNat true, tkE t n e3)) (.inr (addTT T w v p.toNat false, e3))) _
                 rcases e86 with ⟨e9, h1, h2, h3, h4, -⟩ | ⟨h1, h2, h3⟩
                 · cases h1
                   rw [pIf_pos h2]
                   exact ⟨hu _ _ (e300 _ h4), RP.thg hV hPk (by omega) (by omega) (by omega) (by omega) (by omega) (by rw [kbk, h3]; rfl) (by omega)⟩
                 · rw [pIf_neg h1]
                   exact ⟨hu _ _ (e300 _ (h3 ▸ hDi)), RP.thg hV hPk (by omega) (by omega) (by omega) (by omega) (by omega) (by rw [kbk, h2]; rfl) (by omega)⟩)
    · -- 20 f
      first
        | (have hz := e13
           refine g_vret dX6_readThing_23 rfl ⟨rfl, ?_, hz.2.1.p⟩
           rw [pThg, if_pos (by omega)]
           exact hz.1)
        | (exfalso; omega)
theorem RP.owe {T : gTw} {M : gM} {p : Nat} {x : Int32} (h : RP T M) (hV : PIV T) (hp : (p : Int) < T 0 0) : RP (upT T 4 p x.toInt) (g_u M 408 (18 + p) x) := by
  have e1 : ∀ f i, f ≠ 4 → upT T 4 p x.toInt f i = T f i := fun f i q => by simp [upT, q]
  have e4 : ∀ i, upT T 4 p x.toInt 4 i = if i = p then x.toInt else T 4 i := fun i => by simp [upT]
  have e0 := fun i => e1 0 i (by decide)
  have b0 := hV.1.1
  have b1 := hV.1.2.1
  obtain ⟨a1, a2, a3, a4, a5, a6, a7, a8⟩ := h
  have hh : ∀ a b, ¬ (a = 408 ∧ b = 18 + p) → (g_u M 408 (18 + p) x).1 a b = M.1 a b := fun a b q => by simp [g_u, q]
  unfold RP hasT
  simp only [e0, e1 1 _ (by decide), e1 2 _ (by decide), e1 3 _ (by decide), e1 5 _ (by decide), e1 6 _ (by decide), e1 7 _ (by decide), e1 8 _ (by decide)]
  refine ⟨by rw [hh _ _ (by omega)]; exact a1, by rw [hh _ _ (by omega)]; exact a2, by rw [hh _ _ (by omega)]; exact a3, by rw [hh _ _ (by omega)]; exact a4, fun q hq => ?_, fun q hq hq6 => ?_, fun i hi => ?_, fun q i hq => ?_⟩
  · rw [hh 403 _ (by omega), hh 404 _ (by omega), hh 408 (12 + q) (by omega), hh 408 (24 + q) (by omega), e4]
    have := a5 q hq
    refine ⟨this.1, this.2.1, this.2.2.1, ?_, this.2.2.2.2⟩
    by_cases hqp : q = p
    · rw [if_pos hqp, hqp, g_u_eq, if_pos rfl]
    · rw [if_neg hqp, hh _ _ (by omega)]; exact this.2.2.2.1
  · rw [hh 408 (18 + q) (by omega), hh 408 (24 + q) (by omega)]; exact a6 q hq hq6
  · rw [hh 405 _ (by omega), hh 410 _ (by omega), hh 411 _ (by omega), hh 408 i (by omega)]; exact a7 i hi
  · by_cases hi : (i : Int) < T 0 1
    · rw [hh 408 i (by omega)]; exact a8 q i hq
    · have := a8 q i hq
      exact ⟨fun z => absurd (this.mp z).1 hi, fun z => absurd z.1 hi⟩
theorem RP.oweTo {T : gTw} {M : gM} {p : Nat} {x : Int32} (h : RP T M) (hV : PIV T) (hp : (p : Int) < T 0 0) : RP (upT T 5 p x.toInt) (g_u M 408 (24 + p) x) := by
  have e1 : ∀ f i, f ≠ 5 → upT T 5 p x.toInt f i = T f i := fun f i q => by simp [upT, q]
  have e4 : ∀ i, upT T 5 p x.toInt 5 i = if i = p then x.toInt else T 5 i := fun i => by simp [upT]
  have e0 := fun i => e1 0 i (by decide)
  have b0 := hV.1.1
  have b1 := hV.1.2.1
  obtain ⟨a1, a2, a3, a4, a5, a6, a7, a8⟩ := h
  have hh : ∀ a b, ¬ (a = 408 ∧ b = 24 + p) → (g_u M 408 (24 + p) x).1 a b = M.1 a b := fun a b q => by simp [g_u, q]
  unfold RP hasT
  simp only [e0, e1 1 _ (by decide), e1 2 _ (by decide), e1 3 _ (by decide), e1 4 _ (by decide), e1 6 _ (by decide), e1 7 _ (by decide), e1 8 _ (by decide)]
  refine ⟨by rw [hh _ _ (by omega)]; exact a1, by rw [hh _ _ (by omega)]; exact a2, by rw [hh _ _ (by omega)]; exact a3, by rw [hh _ _ (by omega)]; exact a4, fun q hq => ?_, fun q hq hq6 => ?_, fun i hi => ?_, fun q i hq => ?_⟩
  · rw [hh 403 _ (by omega), hh 404 _ (by omega), hh 408 (12 + q) (by omega), hh 408 (18 + q) (by omega), e4]
    have := a5 q hq
    refine ⟨this.1, this.2.1, this.2.2.1, this.2.2.2.1, ?_⟩
    by_cases hqp : q = p
    · rw [if_pos hqp, hqp, g_u_eq, if_pos rfl]
    · rw [if_neg hqp, hh _ _ (by omega)]; exact this.2.2.2.2
  · rw [hh 408 (18 + q) (by omega), hh 408 (24 + q) (by omega)]; exact a6 q hq hq6
  · rw [hh 405 _ (by omega), hh 410 _ (by omega), hh 411 _ (by omega), hh 408 i (by omega)]; exact a7 i hi
  · by_cases hi : (i : Int) < T 0 1
    · rw [hh 408 i (by omega)]; exact a8 q i hq
    · have := a8 q i hq
      exact ⟨fun z => absurd (this.mp z).1 hi, fun z => absurd z.1 hi⟩
theorem RP.set {T : gTw} {M : gM} {i : Nat} {x : Int32} (h : RP T M) (hi : i = 2 ∨ i = 3) : RP (upT T 0 i x.toInt) (g_u M 402 (4 + i) x) := by
  have e1 : ∀ f j, f ≠ 0 → upT T 0 i x.toInt f j = T f j := fun f j q => by simp [upT, q]
  have e0 : ∀ j, upT T 0 i x.toInt 0 j = if j = i then x.toInt else T 0 j := fun j => by simp [upT]
  have n0 : ∀ j, j ≠ i → upT T 0 i x.toInt 0 j = T 0 j := fun j q => by rw [e0, if_neg q]
  have n00 := n0 0 (by omega)
  have n01 := n0 1 (by omega)
  have n05 := n0 5 (by omega)
  obtain ⟨a1, a2, a3, a4, a5, a6, a7, a8⟩ := h
  have hh : ∀ a b, ¬ (a = 402 ∧ b = 4 + i) → (g_u M 402 (4 + i) x).1 a b = M.1 a b := fun a b q => by simp [g_u, q]
  unfold RP hasT
  simp only [n00, n01, n05, e1 1 _ (by decide), e1 2 _ (by decide), e1 3 _ (by decide), e1 4 _ (by decide), e1 5 _ (by decide), e1 6 _ (by decide), e1 7 _ (by decide), e1 8 _ (by decide)]
  rw [g_u_ne (by decide : 403 ≠ 402), g_u_ne (by decide : 404 ≠ 402), g_u_ne (by decide : 405 ≠ 402), g_u_ne (by decide : 408 ≠ 402), g_u_ne (by decide : 410 ≠ 402), g_u_ne (by decide : 411 ≠ 402)]
  refine ⟨by rw [hh _ _ (by omega)]; exact a1, by rw [hh _ _ (by omega)]; exact a2, ?_, ?_, a5, a6, a7, a8⟩
  · rw [e0, g_u_eq]
    rcases hi with rfl | rfl
    · rw [if_pos rfl, if_pos rfl]
    · rw [if_neg (by decide), if_neg (by decide)]; exact a3
  · rw [e0, g_u_eq]
    rcases hi with rfl | rfl
    · rw [if_neg (by decide), if_neg (by decide)]; exact a4
    · rw [if_pos rfl, if_pos rfl]
