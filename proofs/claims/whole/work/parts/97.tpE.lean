def Hd (p : Prop) : Prop := p
set_option maxHeartbeats 1200000 in
theorem c_readThing {Γ : gW} {t : Nat → Int} {n e : Nat} {T : gTw} {M : gM} (hA : g_Tape Γ) (hH : HTc t n M) (he : e ≤ n) (hK : TKc t n e M) (hT : tv M 160 = T) (hV : PIV T)  : Ct Γ yX2_readThing μX2_readThing 6 [.ref 230] M (g_qi (fun z M1 => (∃ q, pThg t n T e = .inl q ∧ z.toInt = 0 ∧ ERc q M1 ∧ PIV (tv M1 160) ∧ frE M M1) ∨ (∃ T1 e1, pThg t n T e = .inr (T1, e1) ∧ z.toInt = 1 ∧ tv M1 160 = T1 ∧ TKc t n e1 M1 ∧ e1 ≤ n ∧ frE M M1))) := by
  have b0 := hV.1.1
  have bb1 := hV.1.2.1
  have t00 : (M.1 160 0).toInt = T 0 0 := by rw [← hT]; exact (tv0 (by decide)).symm
  have t01 : (M.1 160 1).toInt = T 0 1 := by rw [← hT]; exact (tv0 (by decide)).symm
  have x7 := hH.2.1
  have r0 := tk_rng (t := t) he
  have r00 := tk_rng (t := t) r0.2.2.1
  refine g_enter rfl rfl rfl (Nat.le_of_ble_eq_true rfl) ?_
  show G Γ _ _ _ _ 0 [some (.ref 230), none, none, none] [] M
  refine g_aload_n0 dX2_readThing_0 rfl ?_
  refine g_getr dX2_readThing_1 rfl fX2_12 hA.1 rfl ?_
  refine g_geti dX2_readThing_4 rfl fX2_142 hA.2.2.1 rfl ?_
  refine g_bipushI dX2_readThing_7 rfl rfl (fun w7 h7 => ?_)
  refine g_icmp_ltI (t := 18) dX2_readThing_9 (by decide) rfl (fun c9 => ?_) (fun c9 => ?_)
  · -- 9 t
    have heq0 : pThg t n T e = pBd (pNum t n (tkE t n e) 1 99) (fun w e1 => pBd (pNum t n e1 0 999) (fun v e2 => pBd (pPer t n e2 (T 0 0)) (fun h e3 => pIf t n e3 w_wet (.inr (addTT T w v h.toNat true, tkE t n e3)) (.inr (addTT T w v h.toNat false, e3))))) := by rw [pThg, if_neg (by omega)]
    refine g_aload_n0 dX2_readThing_18 rfl ?_
    refine g_callVv0 dX2_readThing_19 rfl vX2_66 hA.1 rfl (c_step hA hH r0.2.2.1 hK.1) (g_rm (by omega)) (Nat.le_of_ble_eq_true rfl) (fun M19 e19 => ?_)
    refine g_aload_n0 dX2_readThing_22 rfl ?_
    refine g_iconstI dX2_readThing_23 rfl rfl (fun w23 h23 => ?_)
    refine g_bipushI dX2_readThing_24 rfl rfl (fun w24 h24 => ?_)
    refine g_callVi2 dX2_readThing_26 rfl vX2_120 hA.1 rfl (c_takeNumber hA (hH.k e19.1) r0.2.2.1 e19.2.1) (g_rm (by omega)) (Nat.le_of_ble_eq_true rfl) (fun z26 M26 e26 => ?_)
    rw [h23, h24] at e26
    rcases e26 with ⟨q, a1, a2, a3, a4⟩ | ⟨w, e1, a1, a2, a3, a4, a5, a6⟩
    · refine g_if_neI (t := 34) dX2_readThing_29 (by decide) rfl (fun c => absurd a2 c) (fun _ => ?_)
      refine g_iconstI dX2_readThing_32 rfl rfl (fun w0 h0 => ?_)
      refine g_zretI dX2_readThing_33 rfl (by omega) ?_
      have hqe : pThg t n T e = .inl q := by
        rw [heq0, a1]; rfl
      exact ⟨_, rfl, Or.inl ⟨q, hqe, h0, a3, by rw [a4.tv, e19.1.tv, hT]; exact hV, frE.tr e19.1.d a4.d⟩⟩
    · refine g_if_neI (t := 34) dX2_readThing_29 (by decide) rfl (fun c => ?_) (fun q => by omega)
      refine g_aload_n0 dX2_readThing_34 rfl ?_
      refine g_geti dX2_readThing_35 rfl fX2_54 hA.1 rfl ?_
      refine g_istore_n1 dX2_readThing_38 rfl rfl ?_
      refine g_aload_n0 dX2_readThing_39 rfl ?_
      refine g_iconstI dX2_readThing_40 rfl rfl (fun w40 h40 => ?_)
      refine g_sipushI dX2_readThing_41 rfl rfl (fun w41 h41 => ?_)
      refine g_callVi2 dX2_readThing_44 rfl vX2_120 hA.1 rfl (c_takeNumber hA ((hH.k e19.1).k a6) a5 a4) (g_rm (by omega)) (Nat.le_of_ble_eq_true rfl) (fun z44 M44 e44 => ?_)
      rcases e44 with ⟨q, b1, b2, b3, b4⟩ | ⟨v, e2, b1, b2, b3, b4, b5, b6⟩
      · refine g_if_neI (t := 52) dX2_readThing_47 (by decide) rfl (fun c => absurd b2 c) (fun _ => ?_)
        refine g_iconstI dX2_readThing_50 rfl rfl (fun w0 h0 => ?_)
        refine g_zretI dX2_readThing_51 rfl (by omega) ?_
        have hqe : pThg t n T e = .inl q := by
          rw [h40, h41] at b1
          rw [heq0, a1]
          show pBd (pNum t n e1 0 999) _ = _
          rw [b1]; rfl
        exact ⟨_, rfl, Or.inl ⟨q, hqe, h0, b3, by rw [b4.tv, a6.tv, e19.1.tv, hT]; exact hV, frE.tr e19.1.d (frE.tr a6.d b4.d)⟩⟩
      · refine g_if_neI (t := 52) dX2_readThing_47 (by decide) rfl (fun c => ?_) (fun q => by omega)
        have b1' : pNum t n e1 0 999 = .inr (v, e2) := by rw [h40, h41] at b1; exact b1
        refine g_aload_n0 dX2_readThing_52 rfl ?_
        refine g_geti dX2_readThing_53 rfl fX2_54 hA.1 rfl ?_
        refine g_istore_n2 dX2_readThing_56 rfl rfl ?_
        refine g_aload_n0 dX2_readThing_57 rfl ?_
        refine g_iconstI dX2_readThing_58 rfl rfl (fun w58 h58 => ?_)
        refine g_callVi1 dX2_readThing_59 rfl vX2_145 hA.1 rfl (c_takePerson (m := T 0 0) hA (((hH.k e19.1).k a6).k b6) b5 b4 (by rw [b6.1 160 (by decide), a6.1 160 (by decide), e19.1.1 160 (by decide)]; exact t00)) (g_rm (by omega)) (Nat.le_of_ble_eq_true rfl) (fun z59 M59 e59 => ?_)
        rcases e59 with ⟨q, c1, c2, c3, c4⟩ | ⟨h, e3, c1, c2, c3, c4, c5, c6⟩
        · refine g_if_neI (t := 67) dX2_readThing_62 (by decide) rfl (fun c => absurd c2 c) (fun _ => ?_)
          refine g_iconstI dX2_readThing_65 rfl rfl (fun w0 h0 => ?_)
          refine g_zretI dX2_readThing_66 rfl (by omega) ?_
          have hqe : pThg t n T e = .inl q := by
            rw [heq0, a1]
            show pBd (pNum t n e1 0 999) _ = _
            rw [b1']
            show pBd (pPer t n e2 (T 0 0)) _ = _
            rw [h58, pPerN_none] at c1
            rw [c1]; rfl
          exact ⟨_, rfl, Or.inl ⟨q, hqe, h0, c3, by rw [c4.tv, b6.tv, a6.tv, e19.1.tv, hT]; exact hV, frE.tr e19.1.d (frE.tr a6.d (frE.tr b6.d c4.d))⟩⟩
        · refine g_if_neI (t := 67) dX2_readThing_62 (by decide) rfl (fun c => ?_) (fun q => by omega)
          have c1' : pPer t n e2 (T 0 0) = .inr (h, e3) := by rw [h58, pPerN_none] at c1; exact c1
          have hpo := pPer_ok c1'
          have hF9 : frE M M59 := frE.tr e19.1.d (frE.tr a6.d (frE.tr b6.d c6.d))
          have hH9 := hH.d hF9
          have hT9 : tv M59 160 = T := by rw [c6.tv, b6.tv, a6.tv, e19.1.tv]; exact hT
          have p59b : (M59.1 160 1).toInt = T 0 1 := by rw [c6.1 160 (by decide), b6.1 160 (by decide), a6.1 160 (by decide), e19.1.1 160 (by decide)]; exact t01
          refine g_aload_n0 dX2_readThing_67 rfl ?_
          refine g_geti dX2_readThing_68 rfl fX2_54 hA.1 rfl ?_
          refine g_istore_n3 dX2_readThing_71 rfl rfl ?_
          refine g_aload_n0 dX2_readThing_72 rfl ?_
          refine g_getr dX2_readThing_73 rfl fX2_12 hA.1 rfl ?_
          refine g_iload_n1 dX2_readThing_76 rfl ?_
          refine g_iload_n2 dX2_readThing_77 rfl ?_
          refine g_iload_n3 dX2_readThing_78 rfl ?_
          refine g_aload_n0 dX2_readThing_79 rfl ?_
          refine g_ldcS (c := 8) dX2_readThing_80 rfl rfl ?_
          refine g_callVi1 dX2_readThing_82 rfl vX2_117 hA.1 rfl (c_skipWord (c := 8) hA hH9 c5 c4 rfl) (g_rm (by omega)) (Nat.le_of_ble_eq_true rfl) (fun z82 M82 e82 => ?_)
          obtain ⟨b82, f82⟩ : (z82.toInt = 0 ∨ z82.toInt = 1) ∧ frK M59 M82 := by
            rcases e82 with ⟨y1, y2, y3, y4⟩ | ⟨y1, y2, y3⟩
            · exact ⟨Or.inr y2, y4⟩
            · exact ⟨Or.inl y2, y3 ▸ frK.rf⟩
          replace e82 : Hd _ := e82
          have p82 : (M82.1 160 1).toInt = T 0 1 := by rw [f82.1 160 (by decide)]; exact p59b
          refine g_callVv4 dX2_readThing_85 rfl vX2_150 hA.2.2.1 rfl (c_addThing hA.2.2 (by omega) (by omega) b82) (g_rm (by omega)) (Nat.le_of_ble_eq_true rfl) (fun M85 e85 => ?_)
          refine g_iconstI dX2_readThing_88 rfl rfl (fun w88 h88 => ?_)
          refine g_zretI dX2_readThing_89 rfl (by omega) ?_
          obtain ⟨hs, we, n1, g1, g2, g3, hM1⟩ := e85
          have fD : frE M82 M85 := by
            rw [hM1, addT]
            exact frE.tr (frE.u (by decide)) (frE.tr (frE.u (by decide)) (frE.tr (frE.u (by decide)) (frE.tr (frE.u (by decide)) (frE.u (by decide)))))
          have f230 : M85.1 230 = M82.1 230 := by rw [hM1, addT, g_u_ne (by decide), g_u_ne (by decide), g_u_ne (by decide), g_u_ne (by decide), g_u_ne (by decide)]
          have hTe : ∀ b : Bool, (z82.toInt = 1 ↔ b = true) → tv M85 160 = addTT T w v h.toNat b := fun b hb => by
            have hT82 : tv M82 160 = T := by rw [f82.tv, hT9]
            rw [hM1, tv_addT (n := (M82.1 160 1).toInt.toNat) (b := b) (by rw [hT82]; exact hV) (by omega) (by rw [hT82]; omega) (by rw [hT82]; omega) (by rw [hT82]; omega) g1 ?_, hT82, a3, b3, c3]
            rw [g2]
            by_cases hz : z82.toInt = 1
            · rw [if_pos hz, if_pos (hb.mp hz)]
            · rw [if_neg hz, if_neg (fun q => hz (hb.mpr q))]
          rcases e82 with ⟨y1, y2, y3, y4⟩ | ⟨y1, y2, y3⟩
          · replace y1 : isW t n e3 w_wet := y1
            refine ⟨_, rfl, Or.inr ⟨_, _, ?_, h88, hTe true ⟨fun _ => rfl, fun _ => y2⟩, ?_, (tk_rng (t := t) c5).2.2.1, frE.tr hF9 (frE.tr f82.d fD)⟩⟩
            · rw [heq0, a1]
              show pBd (pNum t n e1 0 999) _ = _
              rw [b1']
              show pBd (pPer t n e2 (T 0 0)) _ = _
              rw [c1']
              show pIf t n e3 w_wet _ _ = _
              rw [pIf_pos y1]
            · unfold TKc at y3 ⊢; rw [f230]; exact y3
          · replace y1 : ¬ isW t n e3 w_wet := y1
            refine ⟨_, rfl, Or.inr ⟨_, _, ?_, h88, hTe false ⟨(fun q => absurd (y2.symm.trans q) (by decide)), (fun q => absurd q (by decide))⟩, ?_, c5, frE.tr hF9 (frE.tr f82.d fD)⟩⟩
            · rw [heq0, a1]
              show pBd (pNum t n e1 0 999) _ = _
              rw [b1']
              show pBd (pPer t n e2 (T 0 0)) _ = _
              rw [c1']
              show pIf t n e3 w_wet _ _ = _
              rw [pIf_neg y1]
            · rw [y3] at f230
              unfold TKc at c4 ⊢; rw [f230]; exact c4
  · -- 9 f
    have heq1 : pThg t n T e = .inl (2, (tkB t n e : Int)) := by rw [pThg, if_pos (by omega)]
    refine g_aload_n0 dX2_readThing_12 rfl ?_
    refine g_iconstI dX2_readThing_13 rfl rfl (fun w13 h13 => ?_)
    refine g_callVi1 dX2_readThing_14 rfl vX2_108 hA.1 rfl (c_refuse hA) (g_rm (by omega)) (Nat.le_of_ble_eq_true rfl) (fun z14 M14 e14 => ?_)
    refine g_zretI dX2_readThing_17 rfl (by have := e14.1; omega) ?_
    exact ⟨_, rfl, Or.inl ⟨_, heq1, e14.1, by rw [e14.2]; exact ⟨by rw [g_u_eq, if_pos rfl]; exact h13, by rw [g_u_eq, if_neg (by decide)]; exact hK.2.2.1⟩, by rw [e14.2, (frK.u (by decide)).tv, hT]; exact hV, by rw [e14.2]; exact (frK.u (by decide)).d⟩⟩
