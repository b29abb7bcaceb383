set_option maxHeartbeats 1600000 in
theorem l_ow2 {Γ : gW} {t : Nat → Int} {n e : Nat} {T : gTw} {M0 M : gM} (hA : g_Tape Γ) (hH : HTc t n M) (he : e ≤ n) (hK : TKc t n e M) (hT : tv M 160 = T) (hV : PIV T) (hF : frE M0 M) (hno : ∀ p e1, pPer t n e (T 0 0) = .inr (p, e1) → T 4 p.toNat = 0) : G Γ μX2_readOwes (g_R 6) (0, 0) (g_Z Γ (g_qi (fun z M1 => (∃ q, pOwe t n T e = .inl q ∧ z.toInt = 0 ∧ ERc q M1 ∧ PIV (tv M1 160) ∧ frE M0 M1) ∨ (∃ T1 e1, pOwe t n T e = .inr (T1, e1) ∧ z.toInt = 1 ∧ tv M1 160 = T1 ∧ TKc t n e1 M1 ∧ e1 ≤ n ∧ frE M0 M1)))) 40 [some (.ref 230), none] [] M := by
  have b0 := hV.1.1
  have bb1 := hV.1.2.1
  have t00 : (M.1 160 0).toInt = T 0 0 := by rw [← hT]; exact (tv0 (by decide)).symm
  have t01 : (M.1 160 1).toInt = T 0 1 := by rw [← hT]; exact (tv0 (by decide)).symm
  refine g_aload_n0 dX2_readOwes_40 rfl ?_
  refine g_iconstI dX2_readOwes_41 rfl rfl (fun w41 h41 => ?_)
  refine g_callVi1 dX2_readOwes_42 rfl vX2_145 hA.1 rfl (c_takePerson (m := T 0 0) hA hH he hK t00) (g_rm (by omega)) (Nat.le_of_ble_eq_true rfl) (fun z42 M42 e42 => ?_)
  rcases e42 with ⟨q, a1, a2, a3, a4⟩ | ⟨p, e1, a1, a2, a3, a4, a5, a6⟩
  · refine g_if_neI (t := 50) dX2_readOwes_45 (by decide) rfl (fun c => absurd a2 c) (fun _ => ?_)
    refine g_iconstI dX2_readOwes_48 rfl rfl (fun w0 h0 => ?_)
    refine g_zretI dX2_readOwes_49 rfl (by omega) ?_
    have hqe : pOwe t n T e = .inl q := by
      rw [h41, pPerN_none] at a1
      rw [pOwe, a1]; rfl
    exact ⟨_, rfl, Or.inl ⟨q, hqe, h0, a3, by rw [a4.tv, hT]; exact hV, frE.tr hF a4.d⟩⟩
  · refine g_if_neI (t := 50) dX2_readOwes_45 (by decide) rfl (fun c => ?_) (fun q => by omega)
    refine g_aload_n0 dX2_readOwes_50 rfl ?_
    refine g_geti dX2_readOwes_51 rfl fX2_54 hA.1 rfl ?_
    refine g_istore_n1 dX2_readOwes_54 rfl rfl ?_
    have a1' : pPer t n e (T 0 0) = .inr (p, e1) := by rw [h41, pPerN_none] at a1; exact a1
    have hpo := pPer_ok a1'
    have hpi : (M42.1 230 12).toInt.toNat = p.toNat := by rw [a3]
    have hpI : (M42.1 230 12).toInt = p := a3
    have heq1 : pOwe t n T e = pBd (pNum t n e1 1 999) (fun v e2 => pIf t n e2 w_to (pBd (pPer t n (tkE t n e2) (T 0 0)) (fun q e3 => if q = p then .inl (4, tkB t n (tkE t n e2)) else .inr (upT (upT T 4 p.toNat v) 5 p.toNat q, e3))) (.inr (upT T 4 p.toNat v, e2))) := by
      rw [pOwe, a1']
      show (if ¬ T 4 p.toNat = 0 then _ else _) = _
      rw [if_neg (fun q => q (hno p e1 a1'))]
    refine g_aload_n0 dX2_readOwes_55 rfl ?_
    refine g_iconstI dX2_readOwes_56 rfl rfl (fun w56 h56 => ?_)
    refine g_sipushI dX2_readOwes_57 rfl rfl (fun w57 h57 => ?_)
    refine g_callVi2 dX2_readOwes_60 rfl vX2_120 hA.1 rfl (c_takeNumber hA (hH.k a6) a5 a4) (g_rm (by omega)) (Nat.le_of_ble_eq_true rfl) (fun z60 M60 e60 => ?_)
    rcases e60 with ⟨q, b1, b2, b3, b4⟩ | ⟨v, e2, b1, b2, b3, b4, b5, b6⟩
    · refine g_if_neI (t := 68) dX2_readOwes_63 (by decide) rfl (fun c => absurd b2 c) (fun _ => ?_)
      refine g_iconstI dX2_readOwes_66 rfl rfl (fun w0 h0 => ?_)
      refine g_zretI dX2_readOwes_67 rfl (by omega) ?_
      have hqe : pOwe t n T e = .inl q := by
        rw [h56, h57] at b1
        rw [heq1, b1]; rfl
      exact ⟨_, rfl, Or.inl ⟨q, hqe, h0, b3, by rw [b4.tv, a6.tv, hT]; exact hV, frE.tr hF (frE.tr a6.d b4.d)⟩⟩
    · refine g_if_neI (t := 68) dX2_readOwes_63 (by decide) rfl (fun c => ?_) (fun q => by omega)
      have b1' : pNum t n e1 1 999 = .inr (v, e2) := by rw [h56, h57] at b1; exact b1
      have hvo := pNum_ok b1'
      refine g_aload_n0 dX2_readOwes_68 rfl ?_
      refine g_getr dX2_readOwes_69 rfl fX2_12 hA.1 rfl ?_
      refine g_getr dX2_readOwes_72 rfl fX2_157 hA.2.2.1 rfl ?_
      refine g_iload_n1 dX2_readOwes_75 rfl ?_
      refine g_aload_n0 dX2_readOwes_76 rfl ?_
      refine g_geti dX2_readOwes_77 rfl fX2_54 hA.1 rfl ?_
      refine g_iastI dX2_readOwes_80 rfl (tw_owed hA.2.2) ⟨by omega, by omega⟩ ?_
      rw [hpi]
      obtain ⟨M3, hM3⟩ : ∃ M3, M3 = g_u M60 164 p.toNat (M60.1 230 12) := ⟨_, rfl⟩
      refine g_fwd (M1 := M3) ?_ hM3
      have hT3 : tv M3 160 = upT T 4 p.toNat v := by rw [hM3, tv_u (t := 160) (f := 4) (by rw [lenT, if_pos (by decide)]; omega), b6.tv, a6.tv, hT, b3]
      have hV1 : PIV (upT T 4 p.toNat v) := PIV.owe hV (by omega) ⟨hvo.1, hvo.2.1⟩
      have hF3 : frE M0 M3 := by rw [hM3]; exact frE.tr hF (frE.tr a6.d (frE.tr b6.d (frE.u (by decide))))
      have hH3 : HTc t n M3 := by rw [hM3]; exact ((hH.k a6).k b6).d (frE.u (by decide))
      have hK3 : TKc t n e2 M3 := by unfold TKc at b4 ⊢; rw [hM3, g_u_ne (by decide)]; exact b4
      have q00 : upT T 4 p.toNat v 0 0 = T 0 0 := by simp [upT]
      clear hM3
      refine g_aload_n0 dX2_readOwes_81 rfl ?_
      refine g_ldcS (c := 10) dX2_readOwes_82 rfl rfl ?_
      refine g_callVi1 dX2_readOwes_84 rfl vX2_117 hA.1 rfl (c_skipWord (c := 10) hA hH3 b5 hK3 rfl) (g_rm (by omega)) (Nat.le_of_ble_eq_true rfl) (fun z84 M84 e84 => ?_)
      refine g_if_eqI (t := 113) dX2_readOwes_87 (by decide) rfl (fun c87 => ?_) (fun c87 => ?_)
      · -- 87 t
        obtain ⟨hnw, hM84⟩ : ¬ isW t n e2 w_to ∧ M84 = M3 := by
          rcases e84 with ⟨y1, y2, y3, y4⟩ | ⟨y1, y2, y3⟩
          · omega
          · exact ⟨y1, y3⟩
        clear e84
        subst M84
        refine g_iconstI dX2_readOwes_113 rfl rfl (fun w113 h113 => ?_)
        refine g_zretI dX2_readOwes_114 rfl (by omega) ?_
        refine ⟨_, rfl, Or.inr ⟨_, _, ?_, h113, hT3, hK3, b5, hF3⟩⟩
        rw [heq1, b1']
        show pIf t n e2 w_to _ _ = _
        rw [pIf_neg hnw]
      · -- 87 f
        obtain ⟨hyw, hK84, hf84⟩ : isW t n e2 w_to ∧ TKc t n (tkE t n e2) M84 ∧ frK M3 M84 := by
          rcases e84 with ⟨y1, y2, y3, y4⟩ | ⟨y1, y2, y3⟩
          · exact ⟨y1, y3, y4⟩
          · omega
        clear e84
        have hF84 := frE.tr hF3 hf84.d
        have hH84 := hH3.k hf84
        have hT84 : tv M84 160 = upT T 4 p.toNat v := by rw [hf84.tv]; exact hT3
        have heq2 : pOwe t n T e = pBd (pPer t n (tkE t n e2) (T 0 0)) (fun q e3 => if q = p then .inl (4, tkB t n (tkE t n e2)) else .inr (upT (upT T 4 p.toNat v) 5 p.toNat q, e3)) := by
          rw [heq1, b1']
          show pIf t n e2 w_to _ _ = _
          rw [pIf_pos hyw]
        refine g_aload_n0 dX2_readOwes_90 rfl ?_
        refine g_iload_n1 dX2_readOwes_91 rfl ?_
        refine g_callVi1 dX2_readOwes_92 rfl vX2_145 hA.1 rfl (c_takePerson (m := T 0 0) hA hH84 (tk_rng (t := t) b5).2.2.1 hK84 (by rw [← q00, ← hT84]; exact (tv0 (by decide)).symm)) (g_rm (by omega)) (Nat.le_of_ble_eq_true rfl) (fun z92 M92 e92 => ?_)
        rcases e92 with ⟨q, d1, d2, d3, d4⟩ | ⟨x, e9, d1, d2, d3, d4, d5, d6⟩
        · refine g_if_neI (t := 100) dX2_readOwes_95 (by decide) rfl (fun c => absurd d2 c) (fun _ => ?_)
          refine g_iconstI dX2_readOwes_98 rfl rfl (fun w0 h0 => ?_)
          refine g_zretI dX2_readOwes_99 rfl (by omega) ?_
          have hqe : pOwe t n T e = .inl q := by
            rw [heq2]
            rw [hpI, pPerN] at d1
            cases hx : pPer t n (tkE t n e2) (T 0 0) with
            | inl q2 => rw [hx] at d1; cases (show (Sum.inl q2 : pR Int) = .inl q from d1); rfl
            | inr y =>
            obtain ⟨v9, e8⟩ := y
            rw [hx] at d1
            replace d1 : (if v9 = p then _ else _) = _ := d1
            show (if v9 = p then _ else _) = _
            split at d1
            · rename_i hn; rw [if_pos hn]; cases d1; rfl
            · cases d1
          exact ⟨_, rfl, Or.inl ⟨q, hqe, h0, d3, by rw [d4.tv, hT84]; exact hV1, frE.tr hF84 d4.d⟩⟩
        · refine g_if_neI (t := 100) dX2_readOwes_95 (by decide) rfl (fun c => ?_) (fun q => by omega)
          have hF92 := frE.tr hF84 d6.d
          have hT92 : tv M92 160 = upT T 4 p.toNat v := by rw [d6.tv]; exact hT84
          have heq3 : pOwe t n T e = .inr (upT (upT T 4 p.toNat v) 5 p.toNat x, e9) := by
            rw [heq2]
            rw [hpI, pPerN] at d1
            cases hx : pPer t n (tkE t n e2) (T 0 0) with
            | inl q => rw [hx] at d1; cases d1
            | inr y =>
              obtain ⟨v9, e8⟩ := y
              rw [hx] at d1
              replace d1 : (if v9 = p then _ else _) = _ := d1
              show (if v9 = p then _ else _) = _
              split at d1
              · cases d1
              · rename_i hn; rw [if_neg hn]; cases d1; rfl
          refine g_aload_n0 dX2_readOwes_100 rfl ?_
          refine g_getr dX2_readOwes_101 rfl fX2_12 hA.1 rfl ?_
          refine g_getr dX2_readOwes_104 rfl fX2_163 hA.2.2.1 rfl ?_
          refine g_iload_n1 dX2_readOwes_107 rfl ?_
          refine g_aload_n0 dX2_readOwes_108 rfl ?_
          refine g_geti dX2_readOwes_109 rfl fX2_54 hA.1 rfl ?_
          refine g_iastI dX2_readOwes_112 rfl (tw_owedTo hA.2.2) ⟨by omega, by omega⟩ ?_
          rw [hpi]
          have fin : ∀ w : Int32, w.toInt = 1 → g_qi (fun z M1 => (∃ q, pOwe t n T e = .inl q ∧ z.toInt = 0 ∧ ERc q M1 ∧ PIV (tv M1 160) ∧ frE M0 M1) ∨ (∃ T1 e1, pOwe t n T e = .inr (T1, e1) ∧ z.toInt = 1 ∧ tv M1 160 = T1 ∧ TKc t n e1 M1 ∧ e1 ≤ n ∧ frE M0 M1)) (some (.int w)) (g_u M92 165 p.toNat (M92.1 230 12)) := fun w hw => ⟨w, rfl, Or.inr ⟨_, _, heq3, hw, (by rw [tv_u (t := 160) (f := 5) (by rw [lenT, if_pos (by decide)]; omega), hT92, d3]), (by unfold TKc at d4 ⊢; rw [g_u_ne (by decide)]; exact d4), d5, frE.tr hF92 (frE.u (by decide))⟩⟩
          refine g_iconstI dX2_readOwes_113 rfl rfl (fun w113 h113 => ?_)
          refine g_zretI dX2_readOwes_114 rfl (by omega) ?_
          exact fin _ h113
set_option maxHeartbeats 1200000 in
theorem c_readOwes {Γ : gW} {t : Nat → Int} {n e : Nat} {T : gTw} {M : gM} (hA : g_Tape Γ) (hH : HTc t n M) (he : e ≤ n) (hK : TKc t n e M) (hT : tv M 160 = T) (hV : PIV T)  : Ct Γ yX2_readOwes μX2_readOwes 6 [.ref 230] M (g_qi (fun z M1 => (∃ q, pOwe t n T (tkE t n e) = .inl q ∧ z.toInt = 0 ∧ ERc q M1 ∧ PIV (tv M1 160) ∧ frE M M1) ∨ (∃ T1 e1, pOwe t n T (tkE t n e) = .inr (T1, e1) ∧ z.toInt = 1 ∧ tv M1 160 = T1 ∧ TKc t n e1 M1 ∧ e1 ≤ n ∧ frE M M1))) := by
  have b0 := hV.1.1
  have bb1 := hV.1.2.1
  have t00 : (M.1 160 0).toInt = T 0 0 := by rw [← hT]; exact (tv0 (by decide)).symm
  have t01 : (M.1 160 1).toInt = T 0 1 := by rw [← hT]; exact (tv0 (by decide)).symm
  have x7 := hH.2.1
  have r0 := tk_rng (t := t) he
  have r00 := tk_rng (t := t) r0.2.2.1
  refine g_enter rfl rfl rfl (Nat.le_of_ble_eq_true rfl) ?_
  show G Γ _ _ _ _ 0 [some (.ref 230), none] [] M
  refine g_aload_n0 dX2_readOwes_0 rfl ?_
  refine g_callVv0 dX2_readOwes_1 rfl vX2_66 hA.1 rfl (c_step hA hH r0.2.2.1 hK.1) (g_rm (by omega)) (Nat.le_of_ble_eq_true rfl) (fun M1 e1 => ?_)
  obtain ⟨f1, k1, -⟩ := e1
  obtain ⟨k9, k7, k8, k2⟩ := id k1
  have p00 : (M1.1 160 0).toInt = T 0 0 := by rw [f1.1 160 (by decide)]; exact t00
  have t4 : ∀ p, p < 6 → (M1.1 (160 + 4) p).toInt = T 4 p := fun p hp => by rw [f1.1 164 (by decide), ← hT]; exact (tvp (f := 4) (by decide) hp).symm
  refine g_aload_n0 dX2_readOwes_4 rfl ?_
  refine g_geti dX2_readOwes_5 rfl fX2_39 hA.1 rfl ?_
  refine g_iconstI dX2_readOwes_8 rfl rfl (fun w8 h8 => ?_)
  refine g_icmp_neI (t := 40) dX2_readOwes_9 (by decide) rfl (fun c9 => ?_) (fun c9 => ?_)
  · -- 9 t
    clear k2
    first
      | (exact l_ow2 hA (hH.k f1) r0.2.2.1 k1 (by rw [f1.tv]; exact hT) hV f1.d (fun p e9 h => by
           have h2 := pPer_ok h
           omega))
      | (exact l_ow2 hA (hH.k f1) r0.2.2.1 k1 (by rw [f1.tv]; exact hT) hV f1.d (fun p e9 h => by
           have h2 := pPer_ok h
           exact absurd ⟨by omega, by have := k11 (by omega); omega⟩ hout))
      | (exact l_ow2 hA (hH.k f1) r0.2.2.1 k1 (by rw [f1.tv]; exact hT) hV f1.d (fun p e9 h => by
           have h2 := pPer_ok h
           rw [h2.2.2.2.2.1, ← k12, ← t5]; omega))
  · -- 9 f
    obtain ⟨k10, k11⟩ := k2 (by omega)
    have hk2 : tkK t n (tkE t n e) = 2 := by omega
    clear k2
    refine g_aload_n0 dX2_readOwes_12 rfl ?_
    refine g_callVi0 dX2_readOwes_13 rfl vX2_154 hA.1 rfl (c_personTold hA) (g_rm (by omega)) (Nat.le_of_ble_eq_true rfl) (fun z13 M13 e13 => ?_)
    obtain ⟨rfl, e13, f13⟩ := e13
    refine g_if_eqI (t := 40) dX2_readOwes_16 (by decide) rfl (fun c16 => ?_) (fun c16 => ?_)
    · -- 16 t
      have hout : ¬ ((M13.1 230 10).toInt ≤ 4 ∧ (M13.1 230 11).toInt < (M13.1 160 0).toInt) := fun h => by have := f13.mpr h; omega
      clear f13 e13
      first
        | (exact l_ow2 hA (hH.k f1) r0.2.2.1 k1 (by rw [f1.tv]; exact hT) hV f1.d (fun p e9 h => by
             have h2 := pPer_ok h
             omega))
        | (exact l_ow2 hA (hH.k f1) r0.2.2.1 k1 (by rw [f1.tv]; exact hT) hV f1.d (fun p e9 h => by
             have h2 := pPer_ok h
             exact absurd ⟨by omega, by have := k11 (by omega); omega⟩ hout))
        | (exact l_ow2 hA (hH.k f1) r0.2.2.1 k1 (by rw [f1.tv]; exact hT) hV f1.d (fun p e9 h => by
             have h2 := pPer_ok h
             rw [h2.2.2.2.2.1, ← k12, ← t5]; omega))
    · -- 16 f
      have hin := f13.mp (by omega)
      clear f13 e13
      have k12 := k11 (by omega)
      have hvr := tkV_rng hk2 (by omega)
      clear k11
      refine g_aload_n0 dX2_readOwes_19 rfl ?_
      refine g_getr dX2_readOwes_20 rfl fX2_12 hA.1 rfl ?_
      refine g_getr dX2_readOwes_23 rfl fX2_157 hA.2.2.1 rfl ?_
      refine g_aload_n0 dX2_readOwes_26 rfl ?_
      refine g_geti dX2_readOwes_27 rfl fX2_51 hA.1 rfl ?_
      refine g_ialdI dX2_readOwes_30 rfl (tw_owed hA.2.2) ⟨by omega, by omega⟩ ?_
      have t5 := t4 (M13.1 230 11).toInt.toNat (by omega)
      refine g_if_eqI (t := 40) dX2_readOwes_31 (by decide) rfl (fun c31 => ?_) (fun c31 => ?_)
      · -- 31 t
        first
          | (exact l_ow2 hA (hH.k f1) r0.2.2.1 k1 (by rw [f1.tv]; exact hT) hV f1.d (fun p e9 h => by
               have h2 := pPer_ok h
               omega))
          | (exact l_ow2 hA (hH.k f1) r0.2.2.1 k1 (by rw [f1.tv]; exact hT) hV f1.d (fun p e9 h => by
               have h2 := pPer_ok h
               exact absurd ⟨by omega, by have := k11 (by omega); omega⟩ hout))
          | (exact l_ow2 hA (hH.k f1) r0.2.2.1 k1 (by rw [f1.tv]; exact hT) hV f1.d (fun p e9 h => by
               have h2 := pPer_ok h
               rw [h2.2.2.2.2.1, ← k12, ← t5]; omega))
      · -- 31 f
        refine g_aload_n0 dX2_readOwes_34 rfl ?_
        refine g_iconstI dX2_readOwes_35 rfl rfl (fun w35 h35 => ?_)
        refine g_callVi1 dX2_readOwes_36 rfl vX2_108 hA.1 rfl (c_refuse hA) (g_rm (by omega)) (Nat.le_of_ble_eq_true rfl) (fun z36 M36 e36 => ?_)
        refine g_zretI dX2_readOwes_39 rfl (by have := e36.1; omega) ?_
        refine ⟨_, rfl, Or.inl ⟨(4, (tkB t n (tkE t n e) : Int)), ?_, e36.1, by rw [e36.2]; exact ⟨by rw [g_u_eq, if_pos rfl]; exact h35, by rw [g_u_eq, if_neg (by decide)]; exact k8⟩, by rw [e36.2, (frK.u (by decide)).tv, f1.tv, hT]; exact hV, by rw [e36.2]; exact frE.tr f1.d (frK.u (by decide)).d⟩⟩
        have hp : pPer t n (tkE t n e) (T 0 0) = .inr (tkV t n (tkE t n e), tkE t n (tkE t n e)) := by rw [pPer, if_neg (by omega), if_neg (by omega), if_neg (by omega)]
        rw [pOwe, hp]
        show (if ¬ T 4 (tkV t n (tkE t n e)).toNat = 0 then _ else _) = _
        rw [if_pos (by rw [← k12]; omega)]
