def frF (M M' : gM) : Prop := (∀ j, j ≠ 230 → (j < 160 ∨ 168 < j) → M'.1 j = M.1 j) ∧ M'.2 = M.2 ∧ ∀ k, ¬ (4 ≤ k ∧ k ≤ 12) → M'.1 230 k = M.1 230 k
theorem frF.rf {M : gM} : frF M M := ⟨fun _ _ _ => rfl, rfl, fun _ _ => rfl⟩
theorem frF.tr {M M1 M2 : gM} (h : frF M M1) (h2 : frF M1 M2) : frF M M2 := ⟨fun j a b => by rw [h2.1 j a b, h.1 j a b], by rw [h2.2.1, h.2.1], fun k a => by rw [h2.2.2 k a, h.2.2 k a]⟩
theorem frE.f {M M1 : gM} (h : frE M M1) : frF M M1 := ⟨h.1, h.2.1, fun k a => h.2.2 k (by omega)⟩
theorem frF.u {M : gM} {k : Nat} {x : Int32} (h : 4 ≤ k ∧ k ≤ 12) : frF M (g_u M 230 k x) := ⟨fun j a _ => by rw [g_u_ne a], rfl, fun i a => by rw [g_u_eq, if_neg (show ¬ i = k by omega)]⟩
theorem HTc.f {t : Nat → Int} {n : Nat} {M M' : gM} (h : HTc t n M) (hf : frF M M') : HTc t n M' := by
  obtain ⟨a, b, c, d⟩ := h
  exact ⟨by rw [hf.2.2 3 (by omega)]; exact a, b, c, fun k hk => by rw [hf.1 231 (by decide) (by decide)]; exact d k hk⟩
set_option maxHeartbeats 1200000 in
theorem c_readLaw {Γ : gW} {t : Nat → Int} {n e : Nat} {T : gTw} {M : gM} (hA : g_Tape Γ) (hH : HTc t n M) (he : e ≤ n) (hK : TKc t n e M) (hT : tv M 160 = T) (hV : PIV T) {sl : Int} (hsl : sl = 0 ∨ sl = 1) (h4 : (M.1 230 4).toInt = sl) : Ct Γ yX2_readLaw μX2_readLaw 6 [.ref 230] M (g_qi (fun z M1 => (∃ q, (if sl = 1 then .inl (5, (tkB t n e : Int)) else pLaw t n T (tkE t n e)) = .inl q ∧ z.toInt = 0 ∧ ERc q M1 ∧ PIV (tv M1 160) ∧ frF M M1) ∨ (∃ T1 e1, (if sl = 1 then .inl (5, (tkB t n e : Int)) else pLaw t n T (tkE t n e)) = .inr (T1, e1) ∧ z.toInt = 1 ∧ tv M1 160 = T1 ∧ TKc t n e1 M1 ∧ e1 ≤ n ∧ (M1.1 230 4).toInt = 1 ∧ M1.1 230 5 = M.1 230 5 ∧ frF M M1))) := by
  have b0 := hV.1.1
  have bb1 := hV.1.2.1
  have t00 : (M.1 160 0).toInt = T 0 0 := by rw [← hT]; exact (tv0 (by decide)).symm
  have t01 : (M.1 160 1).toInt = T 0 1 := by rw [← hT]; exact (tv0 (by decide)).symm
  have x7 := hH.2.1
  have r0 := tk_rng (t := t) he
  have r00 := tk_rng (t := t) r0.2.2.1
  refine g_enter rfl rfl rfl (Nat.le_of_ble_eq_true rfl) ?_
  show G Γ _ _ _ _ 0 [some (.ref 230)] [] M
  refine g_aload_n0 dX2_readLaw_0 rfl ?_
  refine g_geti dX2_readLaw_1 rfl fX2_29 hA.1 rfl ?_
  refine g_if_eqI (t := 13) dX2_readLaw_4 (by decide) rfl (fun c4 => ?_) (fun c4 => ?_)
  · -- 4 t
    refine g_aload_n0 dX2_readLaw_13 rfl ?_
    refine g_iconst (v := 1) dX2_readLaw_14 rfl rfl ?_
    refine g_put dX2_readLaw_15 rfl fX2_29 hA.1 rfl rfl rfl ?_
    obtain ⟨M2, hM2⟩ : ∃ M2, M2 = g_u M 230 4 1 := ⟨_, rfl⟩
    refine g_fwd (M1 := M2) ?_ hM2
    have hf2 : frF M M2 := by rw [hM2]; exact frF.u (by decide)
    have m4 : (M2.1 230 4).toInt = 1 := by rw [hM2, g_u_eq, if_pos rfl]; rfl
    have m5 : M2.1 230 5 = M.1 230 5 := by rw [hM2, g_u_eq, if_neg (by decide)]
    have m9 : (M2.1 230 9).toInt = (tkE t n e : Int) := by rw [hM2, g_u_eq, if_neg (by decide)]; exact hK.1
    have mT : tv M2 160 = T := by rw [← hT]; exact tv_far (fun j a b => by rw [hM2, g_u_ne (by omega)])
    have hH2 := hH.f hf2
    clear hM2
    refine g_aload_n0 dX2_readLaw_18 rfl ?_
    refine g_callVv0 dX2_readLaw_19 rfl vX2_66 hA.1 rfl (c_step hA hH2 r0.2.2.1 m9) (g_rm (by omega)) (Nat.le_of_ble_eq_true rfl) (fun M19 e19 => ?_)
    refine g_aload_n0 dX2_readLaw_22 rfl ?_
    refine g_ldcS (c := 12) dX2_readLaw_23 rfl rfl ?_
    refine g_callVi1 dX2_readLaw_25 rfl vX2_117 hA.1 rfl (c_skipWord (c := 12) hA (hH2.k e19.1) r0.2.2.1 e19.2.1 rfl) (g_rm (by omega)) (Nat.le_of_ble_eq_true rfl) (fun z25 M25 e25 => ?_)
    refine g_if_eqI (t := 33) dX2_readLaw_28 (by decide) rfl (fun c28 => ?_) (fun c28 => ?_)
    · -- 28 t
      obtain ⟨n1, hM25⟩ : ¬ isW t n (tkE t n e) w_giver ∧ M25 = M19 := by
        rcases e25 with ⟨y1, y2, y3, y4⟩ | ⟨y1, y2, y3⟩
        · omega
        · exact ⟨y1, y3⟩
      clear e25
      subst M25
      refine g_aload_n0 dX2_readLaw_33 rfl ?_
      refine g_ldcS (c := 13) dX2_readLaw_34 rfl rfl ?_
      refine g_callVi1 dX2_readLaw_36 rfl vX2_117 hA.1 rfl (c_skipWord (c := 13) hA (hH2.k e19.1) r0.2.2.1 e19.2.1 rfl) (g_rm (by omega)) (Nat.le_of_ble_eq_true rfl) (fun z36 M36 e36 => ?_)
      refine g_if_eqI (t := 52) dX2_readLaw_39 (by decide) rfl (fun c39 => ?_) (fun c39 => ?_)
      · -- 39 t
        obtain ⟨n2, hM36⟩ : ¬ isW t n (tkE t n e) w_anyone ∧ M36 = M19 := by
          rcases e36 with ⟨y1, y2, y3, y4⟩ | ⟨y1, y2, y3⟩
          · omega
          · exact ⟨y1, y3⟩
        clear e36
        subst M36
        refine g_aload_n0 dX2_readLaw_52 rfl ?_
        refine g_iconstI dX2_readLaw_53 rfl rfl (fun w53 h53 => ?_)
        refine g_callVi1 dX2_readLaw_54 rfl vX2_108 hA.1 rfl (c_refuse hA) (g_rm (by omega)) (Nat.le_of_ble_eq_true rfl) (fun z54 M54 e54 => ?_)
        refine g_zretI dX2_readLaw_57 rfl (by have := e54.1; omega) ?_
        exact ⟨_, rfl, Or.inl ⟨_, by rw [if_neg (by omega), pLaw, pIf_neg n1, pIf_neg n2], e54.1, by rw [e54.2]; exact ⟨by rw [g_u_eq, if_pos rfl]; exact h53, by rw [g_u_eq, if_neg (by decide)]; exact e19.2.1.2.2.1⟩, by rw [e54.2, (frK.u (by decide)).tv, e19.1.tv, mT]; exact hV, by rw [e54.2]; exact frF.tr hf2 (frF.tr e19.1.d.f (frF.u (by decide)))⟩⟩
      · -- 39 f
        obtain ⟨y2, k36, f36⟩ : isW t n (tkE t n e) w_anyone ∧ TKc t n (tkE t n (tkE t n e)) M36 ∧ frK M19 M36 := by
          rcases e36 with ⟨y1, y2, y3, y4⟩ | ⟨y1, y2, y3⟩
          · exact ⟨y1, y3, y4⟩
          · omega
        clear e36
        refine g_aload_n0 dX2_readLaw_42 rfl ?_
        refine g_getr dX2_readLaw_43 rfl fX2_12 hA.1 rfl ?_
        refine g_iconst (v := 1) dX2_readLaw_46 rfl rfl ?_
        refine g_put dX2_readLaw_47 rfl fX2_170 hA.2.2.1 rfl rfl rfl ?_
        refine g_iconstI dX2_readLaw_50 rfl rfl (fun w50 h50 => ?_)
        refine g_zretI dX2_readLaw_51 rfl (by omega) ?_
        refine ⟨_, rfl, Or.inr ⟨_, _, by rw [if_neg (by omega), pLaw, pIf_neg n1, pIf_pos y2], h50, ?_, ?_, r00.2.2.1, ?_, ?_, frF.tr hf2 (frF.tr e19.1.d.f (frF.tr f36.d.f (frE.u (by decide)).f))⟩⟩
        · rw [show g_u M36 160 2 1 = g_u M36 (160 + 0) 2 1 from rfl, tv_u (by rw [lenT, if_pos (by decide)]; decide), f36.tv, e19.1.tv, mT]; rfl
        · unfold TKc at k36 ⊢; rw [g_u_ne (by decide)]; exact k36
        · rw [g_u_ne (by decide), f36.2.2 4 (by omega), e19.1.2.2 4 (by omega)]; exact m4
        · rw [g_u_ne (by decide), f36.2.2 5 (by omega), e19.1.2.2 5 (by omega)]; exact m5
    · -- 28 f
      obtain ⟨y1, k25, f25⟩ : isW t n (tkE t n e) w_giver ∧ TKc t n (tkE t n (tkE t n e)) M25 ∧ frK M19 M25 := by
        rcases e25 with ⟨y1, y2, y3, y4⟩ | ⟨y1, y2, y3⟩
        · exact ⟨y1, y3, y4⟩
        · omega
      clear e25
      refine g_iconstI dX2_readLaw_31 rfl rfl (fun w31 h31 => ?_)
      refine g_zretI dX2_readLaw_32 rfl (by omega) ?_
      exact ⟨_, rfl, Or.inr ⟨_, _, by rw [if_neg (by omega), pLaw, pIf_pos y1], h31, by rw [f25.tv, e19.1.tv]; exact mT, k25, r00.2.2.1, by rw [f25.2.2 4 (by omega), e19.1.2.2 4 (by omega)]; exact m4, by rw [f25.2.2 5 (by omega), e19.1.2.2 5 (by omega)]; exact m5, frF.tr hf2 (frF.tr e19.1.d.f f25.d.f)⟩⟩
  · -- 4 f
    refine g_aload_n0 dX2_readLaw_7 rfl ?_
    refine g_iconstI dX2_readLaw_8 rfl rfl (fun w8 h8 => ?_)
    refine g_callVi1 dX2_readLaw_9 rfl vX2_108 hA.1 rfl (c_refuse hA) (g_rm (by omega)) (Nat.le_of_ble_eq_true rfl) (fun z9 M9 e9 => ?_)
    refine g_zretI dX2_readLaw_12 rfl (by have := e9.1; omega) ?_
    exact ⟨_, rfl, Or.inl ⟨_, by rw [if_pos (by omega)], e9.1, by rw [e9.2]; exact ⟨by rw [g_u_eq, if_pos rfl]; exact h8, by rw [g_u_eq, if_neg (by decide)]; exact hK.2.2.1⟩, by rw [e9.2, (frK.u (by decide)).tv, hT]; exact hV, by rw [e9.2]; exact frF.u (by decide)⟩⟩
set_option maxHeartbeats 1200000 in
theorem c_readWithin {Γ : gW} {t : Nat → Int} {n e : Nat} {T : gTw} {M : gM} (hA : g_Tape Γ) (hH : HTc t n M) (he : e ≤ n) (hK : TKc t n e M) (hT : tv M 160 = T) (hV : PIV T) {sw : Int} (hsw : sw = 0 ∨ sw = 1) (h5 : (M.1 230 5).toInt = sw) : Ct Γ yX2_readWithin μX2_readWithin 6 [.ref 230] M (g_qi (fun z M1 => (∃ q, (if sw = 1 then .inl (5, (tkB t n e : Int)) else pBd (pNum t n (tkE t n e) 0 9) (fun v e1 => .inr (upT T 0 3 v, e1))) = .inl q ∧ z.toInt = 0 ∧ ERc q M1 ∧ PIV (tv M1 160) ∧ frF M M1) ∨ (∃ T1 e1, (if sw = 1 then .inl (5, (tkB t n e : Int)) else pBd (pNum t n (tkE t n e) 0 9) (fun v e1 => .inr (upT T 0 3 v, e1))) = .inr (T1, e1) ∧ z.toInt = 1 ∧ tv M1 160 = T1 ∧ TKc t n e1 M1 ∧ e1 ≤ n ∧ (M1.1 230 5).toInt = 1 ∧ M1.1 230 4 = M.1 230 4 ∧ frF M M1))) := by
  have b0 := hV.1.1
  have bb1 := hV.1.2.1
  have t00 : (M.1 160 0).toInt = T 0 0 := by rw [← hT]; exact (tv0 (by decide)).symm
  have t01 : (M.1 160 1).toInt = T 0 1 := by rw [← hT]; exact (tv0 (by decide)).symm
  have x7 := hH.2.1
  have r0 := tk_rng (t := t) he
  have r00 := tk_rng (t := t) r0.2.2.1
  refine g_enter rfl rfl rfl (Nat.le_of_ble_eq_true rfl) ?_
  show G Γ _ _ _ _ 0 [some (.ref 230)] [] M
  refine g_aload_n0 dX2_readWithin_0 rfl ?_
  refine g_geti dX2_readWithin_1 rfl fX2_33 hA.1 rfl ?_
  refine g_if_eqI (t := 13) dX2_readWithin_4 (by decide) rfl (fun c4 => ?_) (fun c4 => ?_)
  · -- 4 t
    refine g_aload_n0 dX2_readWithin_13 rfl ?_
    refine g_iconst (v := 1) dX2_readWithin_14 rfl rfl ?_
    refine g_put dX2_readWithin_15 rfl fX2_33 hA.1 rfl rfl rfl ?_
    obtain ⟨M2, hM2⟩ : ∃ M2, M2 = g_u M 230 5 1 := ⟨_, rfl⟩
    refine g_fwd (M1 := M2) ?_ hM2
    have hf2 : frF M M2 := by rw [hM2]; exact frF.u (by decide)
    have m4 : (M2.1 230 5).toInt = 1 := by rw [hM2, g_u_eq, if_pos rfl]; rfl
    have m5 : M2.1 230 4 = M.1 230 4 := by rw [hM2, g_u_eq, if_neg (by decide)]
    have m9 : (M2.1 230 9).toInt = (tkE t n e : Int) := by rw [hM2, g_u_eq, if_neg (by decide)]; exact hK.1
    have mT : tv M2 160 = T := by rw [← hT]; exact tv_far (fun j a b => by rw [hM2, g_u_ne (by omega)])
    have hH2 := hH.f hf2
    clear hM2
    refine g_aload_n0 dX2_readWithin_18 rfl ?_
    refine g_callVv0 dX2_readWithin_19 rfl vX2_66 hA.1 rfl (c_step hA hH2 r0.2.2.1 m9) (g_rm (by omega)) (Nat.le_of_ble_eq_true rfl) (fun M19 e19 => ?_)
    refine g_aload_n0 dX2_readWithin_22 rfl ?_
    refine g_iconstI dX2_readWithin_23 rfl rfl (fun w23 h23 => ?_)
    refine g_bipushI dX2_readWithin_24 rfl rfl (fun w24 h24 => ?_)
    refine g_callVi2 dX2_readWithin_26 rfl vX2_120 hA.1 rfl (c_takeNumber hA (hH2.k e19.1) r0.2.2.1 e19.2.1) (g_rm (by omega)) (Nat.le_of_ble_eq_true rfl) (fun z26 M26 e26 => ?_)
    rw [h23, h24] at e26
    rcases e26 with ⟨q, a1, a2, a3, a4⟩ | ⟨v, e1, a1, a2, a3, a4, a5, a6⟩
    · refine g_if_neI (t := 34) dX2_readWithin_29 (by decide) rfl (fun c => absurd a2 c) (fun _ => ?_)
      refine g_iconstI dX2_readWithin_32 rfl rfl (fun w0 h0 => ?_)
      refine g_zretI dX2_readWithin_33 rfl (by omega) ?_
      have hqe : (if sw = 1 then .inl (5, (tkB t n e : Int)) else pBd (pNum t n (tkE t n e) 0 9) (fun v e1 => .inr (upT T 0 3 v, e1))) = .inl q := by
        rw [if_neg (by omega), a1]; rfl
      exact ⟨_, rfl, Or.inl ⟨q, hqe, h0, a3, by rw [a4.tv, e19.1.tv, mT]; exact hV, frF.tr hf2 (frF.tr e19.1.d.f a4.d.f)⟩⟩
    · refine g_if_neI (t := 34) dX2_readWithin_29 (by decide) rfl (fun c => ?_) (fun q => by omega)
      refine g_aload_n0 dX2_readWithin_34 rfl ?_
      refine g_getr dX2_readWithin_35 rfl fX2_12 hA.1 rfl ?_
      refine g_aload_n0 dX2_readWithin_38 rfl ?_
      refine g_geti dX2_readWithin_39 rfl fX2_54 hA.1 rfl ?_
      refine g_put dX2_readWithin_42 rfl fX2_172 hA.2.2.1 rfl rfl rfl ?_
      have fin : ∀ w : Int32, w.toInt = 1 → g_qi (fun z M1 => (∃ q, (if sw = 1 then .inl (5, (tkB t n e : Int)) else pBd (pNum t n (tkE t n e) 0 9) (fun v e1 => .inr (upT T 0 3 v, e1))) = .inl q ∧ z.toInt = 0 ∧ ERc q M1 ∧ PIV (tv M1 160) ∧ frF M M1) ∨ (∃ T1 e1, (if sw = 1 then .inl (5, (tkB t n e : Int)) else pBd (pNum t n (tkE t n e) 0 9) (fun v e1 => .inr (upT T 0 3 v, e1))) = .inr (T1, e1) ∧ z.toInt = 1 ∧ tv M1 160 = T1 ∧ TKc t n e1 M1 ∧ e1 ≤ n ∧ (M1.1 230 5).toInt = 1 ∧ M1.1 230 4 = M.1 230 4 ∧ frF M M1)) (some (.int w)) (g_u M26 160 3 (M26.1 230 12)) := fun w hw => by
        refine ⟨w, rfl, Or.inr ⟨_, _, by rw [if_neg (by omega), a1]; rfl, hw, ?_, ?_, a5, ?_, ?_, frF.tr hf2 (frF.tr e19.1.d.f (frF.tr a6.d.f (frE.u (by decide)).f))⟩⟩
        · rw [show g_u M26 160 3 (M26.1 230 12) = g_u M26 (160 + 0) 3 (M26.1 230 12) from rfl, tv_u (by rw [lenT, if_pos (by decide)]; decide), a6.tv, e19.1.tv, mT, a3]
        · unfold TKc at a4 ⊢; rw [g_u_ne (by decide)]; exact a4
        · rw [g_u_ne (by decide), a6.2.2 5 (by omega), e19.1.2.2 5 (by omega)]; exact m4
        · rw [g_u_ne (by decide), a6.2.2 4 (by omega), e19.1.2.2 4 (by omega)]; exact m5
      refine g_iconstI dX2_readWithin_45 rfl rfl (fun w45 h45 => ?_)
      refine g_zretI dX2_readWithin_46 rfl (by omega) ?_
      exact fin _ h45
  · -- 4 f
    refine g_aload_n0 dX2_readWithin_7 rfl ?_
    refine g_iconstI dX2_readWithin_8 rfl rfl (fun w8 h8 => ?_)
    refine g_callVi1 dX2_readWithin_9 rfl vX2_108 hA.1 rfl (c_refuse hA) (g_rm (by omega)) (Nat.le_of_ble_eq_true rfl) (fun z9 M9 e9 => ?_)
    refine g_zretI dX2_readWithin_12 rfl (by have := e9.1; omega) ?_
    exact ⟨_, rfl, Or.inl ⟨_, by rw [if_pos (by omega)], e9.1, by rw [e9.2]; exact ⟨by rw [g_u_eq, if_pos rfl]; exact h8, by rw [g_u_eq, if_neg (by decide)]; exact hK.2.2.1⟩, by rw [e9.2, (frK.u (by decide)).tv, hT]; exact hV, by rw [e9.2]; exact frF.u (by decide)⟩⟩
set_option maxHeartbeats 1200000 in
theorem c_readLine {Γ : gW} {t : Nat → Int} {n e : Nat} {T : gTw} {M : gM} (hA : g_Tape Γ) (hH : HTc t n M) (he : e ≤ n) (hK : TKc t n e M) (hT : tv M 160 = T) (hV : PIV T) {sl sw : Int} (hsl : sl = 0 ∨ sl = 1) (hsw : sw = 0 ∨ sw = 1) (h4 : (M.1 230 4).toInt = sl) (h5 : (M.1 230 5).toInt = sw) : Ct Γ yX2_readLine μX2_readLine 7 [.ref 230] M (g_qi (fun z M1 => (∃ q, pLine t n T sl sw e = .inl q ∧ z.toInt = 0 ∧ ERc q M1 ∧ PIV (tv M1 160) ∧ frF M M1) ∨ (∃ T1 l1 w1 e1, pLine t n T sl sw e = .inr ((T1, l1, w1), e1) ∧ z.toInt = 1 ∧ tv M1 160 = T1 ∧ TKc t n e1 M1 ∧ e1 ≤ n ∧ (M1.1 230 4).toInt = l1 ∧ (M1.1 230 5).toInt = w1 ∧ frF M M1))) := by
  have b0 := hV.1.1
  have bb1 := hV.1.2.1
  have t00 : (M.1 160 0).toInt = T 0 0 := by rw [← hT]; exact (tv0 (by decide)).symm
  have t01 : (M.1 160 1).toInt = T 0 1 := by rw [← hT]; exact (tv0 (by decide)).symm
  have x7 := hH.2.1
  have r0 := tk_rng (t := t) he
  have r00 := tk_rng (t := t) r0.2.2.1
  have hkw : ∀ T1 e1, (if sw = 1 then .inl (5, (tkB t n e : Int)) else pBd (pNum t n (tkE t n e) 0 9) (fun v e1 => .inr (upT T 0 3 v, e1))) = .inr (T1, e1) → PIV T1 := fun T1 e1 h => by
    split at h
    · cases h
    · obtain ⟨v, e2, h1, h2⟩ := pBd_ok h
      cases h2
      have h3 := pNum_ok h1
      exact PIV.set hV (Or.inr ⟨rfl, h3.1, h3.2.1⟩)
  refine g_enter rfl rfl rfl (Nat.le_of_ble_eq_true rfl) ?_
  show G Γ _ _ _ _ 0 [some (.ref 230)] [] M
  refine g_aload_n0 dX2_readLine_0 rfl ?_
  refine g_ldcS (c := 0) dX2_readLine_1 rfl rfl ?_
  refine g_callVi1 dX2_readLine_3 rfl vX2_78 hA.1 rfl (c_isWord (c := 0) hA hH he hK rfl) (g_rm (by omega)) (Nat.le_of_ble_eq_true rfl) (fun z3 M3 e3 => ?_)
  obtain ⟨hMM, e3, f3⟩ := e3
  subst M3
  replace f3 : z3.toInt = 1 ↔ isW t n e w_person := f3
  refine g_if_eqI (t := 29) dX2_readLine_6 (by decide) rfl (fun c6 => ?_) (fun c6 => ?_)
  · -- 6 t
    have n_person : ¬ isW t n e w_person := fun h => by have := f3.mpr h; omega
    clear f3 e3
    refine g_aload_n0 dX2_readLine_29 rfl ?_
    refine g_ldcS (c := 7) dX2_readLine_30 rfl rfl ?_
    refine g_callVi1 dX2_readLine_32 rfl vX2_78 hA.1 rfl (c_isWord (c := 7) hA hH he hK rfl) (g_rm (by omega)) (Nat.le_of_ble_eq_true rfl) (fun z32 M32 e32 => ?_)
    obtain ⟨hMM, e32, f32⟩ := e32
    subst M32
    replace f32 : z32.toInt = 1 ↔ isW t n e w_thing := f32
    refine g_if_eqI (t := 58) dX2_readLine_35 (by decide) rfl (fun c35 => ?_) (fun c35 => ?_)
    · -- 35 t
      have n_thing : ¬ isW t n e w_thing := fun h => by have := f32.mpr h; omega
      clear f32 e32
      refine g_aload_n0 dX2_readLine_58 rfl ?_
      refine g_ldcS (c := 9) dX2_readLine_59 rfl rfl ?_
      refine g_callVi1 dX2_readLine_61 rfl vX2_78 hA.1 rfl (c_isWord (c := 9) hA hH he hK rfl) (g_rm (by omega)) (Nat.le_of_ble_eq_true rfl) (fun z61 M61 e61 => ?_)
      obtain ⟨hMM, e61, f61⟩ := e61
      subst M61
      replace f61 : z61.toInt = 1 ↔ isW t n e w_owes := f61
      refine g_if_eqI (t := 87) dX2_readLine_64 (by decide) rfl (fun c64 => ?_) (fun c64 => ?_)
      · -- 64 t
        have n_owes : ¬ isW t n e w_owes := fun h => by have := f61.mpr h; omega
        clear f61 e61
        refine g_aload_n0 dX2_readLine_87 rfl ?_
        refine g_ldcS (c := 11) dX2_readLine_88 rfl rfl ?_
        refine g_callVi1 dX2_readLine_90 rfl vX2_78 hA.1 rfl (c_isWord (c := 11) hA hH he hK rfl) (g_rm (by omega)) (Nat.le_of_ble_eq_true rfl) (fun z90 M90 e90 => ?_)
        obtain ⟨hMM, e90, f90⟩ := e90
        subst M90
        replace f90 : z90.toInt = 1 ↔ isW t n e w_law := f90
        refine g_if_eqI (t := 116) dX2_readLine_93 (by decide) rfl (fun c93 => ?_) (fun c93 => ?_)
        · -- 93 t
          have n_law : ¬ isW t n e w_law := fun h => by have := f90.mpr h; omega
          clear f90 e90
          refine g_aload_n0 dX2_readLine_116 rfl ?_
          refine g_ldcS (c := 14) dX2_readLine_117 rfl rfl ?_
          refine g_callVi1 dX2_readLine_119 rfl vX2_78 hA.1 rfl (c_isWord (c := 14) hA hH he hK rfl) (g_rm (by omega)) (Nat.le_of_ble_eq_true rfl) (fun z119 M119 e119 => ?_)
          obtain ⟨hMM, e119, f119⟩ := e119
          subst M119
          replace f119 : z119.toInt = 1 ↔ isW t n e w_within := f119
          refine g_if_eqI (t := 145) dX2_readLine_122 (by decide) rfl (fun c122 => ?_) (fun c122 => ?_)
          · -- 122 t
            have n_within : ¬ isW t n e w_within := fun h => by have := f119.mpr h; omega
            clear f119 e119
            refine g_aload_n0 dX2_readLine_145 rfl ?_
            refine g_iconstI dX2_readLine_146 rfl rfl (fun w146 h146 => ?_)
            refine g_callVi1 dX2_readLine_147 rfl vX2_108 hA.1 rfl (c_refuse hA) (g_rm (by omega)) (Nat.le_of_ble_eq_true rfl) (fun z147 M147 e147 => ?_)
            refine g_zretI dX2_readLine_150 rfl (by have := e147.1; omega) ?_
            exact ⟨_, rfl, Or.inl ⟨_, by rw [pLine, pIf_neg n_person, pIf_neg n_thing, pIf_neg n_owes, pIf_neg n_law, pIf_neg n_within], e147.1, by rw [e147.2]; exact ⟨by rw [g_u_eq, if_pos rfl]; exact h146, by rw [g_u_eq, if_neg (by decide)]; exact hK.2.2.1⟩, by rw [e147.2, (frK.u (by decide)).tv, hT]; exact hV, by rw [e147.2]; exact frF.u (by decide)⟩⟩
          · -- 122 f
            have y_within := f119.mp (by omega)
            clear f119 e119
            have hpw : pLine t n T sl sw e = pBd (if sw = 1 then .inl (5, (tkB t n e : Int)) else pBd (pNum t n (tkE t n e) 0 9) (fun v e1 => .inr (upT T 0 3 v, e1))) (fun T1 e1 => pStop t n (T1, sl, 1) e1) := by
              rw [pLine, pIf_neg n_person, pIf_neg n_thing, pIf_neg n_owes, pIf_neg n_law, pIf_pos y_within]
              split
              · rfl
              · cases pNum t n (tkE t n e) 0 9 <;> rfl
            refine g_aload_n0 dX2_readLine_125 rfl ?_
            refine g_callVi0 dX2_readLine_126 rfl vX2_105 hA.1 rfl (c_readWithin hA hH he hK hT hV hsw h5) (g_rm (by omega)) (Nat.le_of_ble_eq_true rfl) (fun z126 M126 e126 => ?_)
            rcases e126 with ⟨q, a1, a2, a3, a4, a5⟩ | ⟨T1, e1, a1, a2, a3, a4, a5, m5, m4, a6⟩
            · refine g_if_eqI (t := 143) dX2_readLine_129 (by decide) rfl (fun _ => ?_) (fun c => absurd a2 c)
              refine g_iconstI dX2_readLine_143 rfl rfl (fun w0 h0 => ?_)
              refine g_zretI dX2_readLine_144 rfl (by omega) ?_
              exact ⟨_, rfl, Or.inl ⟨q, by rw [hpw, a1]; rfl, h0, a3, a4, a5⟩⟩
            · refine g_if_eqI (t := 143) dX2_readLine_129 (by decide) rfl (fun c => by omega) (fun c => ?_)
              have hkp := hkw T1 e1 a1
              refine g_aload_n0 dX2_readLine_132 rfl ?_
              refine g_callVi0 dX2_readLine_133 rfl vX2_85 hA.1 rfl (c_takeStop (x := (T1, sl, (1 : Int))) hA (hH.f a6) a5 a4) (g_rm (by omega)) (Nat.le_of_ble_eq_true rfl) (fun z8 M8 e8 => ?_)
              rcases e8 with ⟨q, b1, b2, b3, b4⟩ | ⟨e2, b1, b2, b3, b4, b5⟩
              · refine g_if_eqI (t := 143) dX2_readLine_136 (by decide) rfl (fun _ => ?_) (fun c => absurd b2 c)
                refine g_iconstI dX2_readLine_143 rfl rfl (fun w0 h0 => ?_)
                refine g_zretI dX2_readLine_144 rfl (by omega) ?_
                exact ⟨_, rfl, Or.inl ⟨q, by rw [hpw, a1]; exact b1, h0, b3, by rw [b4.tv, a3]; exact hkp, frF.tr a6 b4.d.f⟩⟩
              · refine g_if_eqI (t := 143) dX2_readLine_136 (by decide) rfl (fun c => by omega) (fun c => ?_)
                refine g_iconstI dX2_readLine_139 rfl rfl (fun w1 h1 => ?_)
                refine g_goto (t := 144) dX2_readLine_140 (by decide) ?_
                refine g_zretI dX2_readLine_144 rfl (by omega) ?_
                exact ⟨_, rfl, Or.inr ⟨T1, sl, (1 : Int), e2, by rw [hpw, a1]; exact b1, h1, by rw [b5.tv]; exact a3, b3, b4, by rw [b5.2.2 4 (by omega), m4]; exact h4, by rw [b5.2.2 5 (by omega)]; exact m5, frF.tr a6 b5.d.f⟩⟩
        · -- 93 f
          have y_law := f90.mp (by omega)
          clear f90 e90
          have hpl : pLine t n T sl sw e = pBd (if sl = 1 then .inl (5, (tkB t n e : Int)) else pLaw t n T (tkE t n e)) (fun T1 e1 => pStop t n (T1, 1, sw) e1) := by
            rw [pLine, pIf_neg n_person, pIf_neg n_thing, pIf_neg n_owes, pIf_pos y_law]
            split <;> rfl
          have hkl : ∀ T1 e1, (if sl = 1 then .inl (5, (tkB t n e : Int)) else pLaw t n T (tkE t n e)) = .inr (T1, e1) → PIV T1 := fun T1 e1 h => by
            split at h
            · cases h
            · exact (pLaw_ok hV r0.2.2.1 h).1
          refine g_aload_n0 dX2_readLine_96 rfl ?_
          refine g_callVi0 dX2_readLine_97 rfl vX2_100 hA.1 rfl (c_readLaw hA hH he hK hT hV hsl h4) (g_rm (by omega)) (Nat.le_of_ble_eq_true rfl) (fun z97 M97 e97 => ?_)
          rcases e97 with ⟨q, a1, a2, a3, a4, a5⟩ | ⟨T1, e1, a1, a2, a3, a4, a5, m4, m5, a6⟩
          · refine g_if_eqI (t := 114) dX2_readLine_100 (by decide) rfl (fun _ => ?_) (fun c => absurd a2 c)
            refine g_iconstI dX2_readLine_114 rfl rfl (fun w0 h0 => ?_)
            refine g_zretI dX2_readLine_115 rfl (by omega) ?_
            exact ⟨_, rfl, Or.inl ⟨q, by rw [hpl, a1]; rfl, h0, a3, a4, a5⟩⟩
          · refine g_if_eqI (t := 114) dX2_readLine_100 (by decide) rfl (fun c => by omega) (fun c => ?_)
            have hkp := hkl T1 e1 a1
            refine g_aload_n0 dX2_readLine_103 rfl ?_
            refine g_callVi0 dX2_readLine_104 rfl vX2_85 hA.1 rfl (c_takeStop (x := (T1, (1 : Int), sw)) hA (hH.f a6) a5 a4) (g_rm (by omega)) (Nat.le_of_ble_eq_true rfl) (fun z8 M8 e8 => ?_)
            rcases e8 with ⟨q, b1, b2, b3, b4⟩ | ⟨e2, b1, b2, b3, b4, b5⟩
            · refine g_if_eqI (t := 114) dX2_readLine_107 (by decide) rfl (fun _ => ?_) (fun c => absurd b2 c)
              refine g_iconstI dX2_readLine_114 rfl rfl (fun w0 h0 => ?_)
              refine g_zretI dX2_readLine_115 rfl (by omega) ?_
              exact ⟨_, rfl, Or.inl ⟨q, by rw [hpl, a1]; exact b1, h0, b3, by rw [b4.tv, a3]; exact hkp, frF.tr a6 b4.d.f⟩⟩
            · refine g_if_eqI (t := 114) dX2_readLine_107 (by decide) rfl (fun c => by omega) (fun c => ?_)
              refine g_iconstI dX2_readLine_110 rfl rfl (fun w1 h1 => ?_)
              refine g_goto (t := 115) dX2_readLine_111 (by decide) ?_
              refine g_zretI dX2_readLine_115 rfl (by omega) ?_
              exact ⟨_, rfl, Or.inr ⟨T1, (1 : Int), sw, e2, by rw [hpl, a1]; exact b1, h1, by rw [b5.tv]; exact a3, b3, b4, by rw [b5.2.2 4 (by omega)]; exact m4, by rw [b5.2.2 5 (by omega), m5]; exact h5, frF.tr a6 b5.d.f⟩⟩
      · -- 64 f
        have y_owes := f61.mp (by omega)
        clear f61 e61
        refine g_aload_n0 dX2_readLine_67 rfl ?_
        refine g_callVi0 dX2_readLine_68 rfl vX2_95 hA.1 rfl (c_readOwes hA hH he hK hT hV) (g_rm (by omega)) (Nat.le_of_ble_eq_true rfl) (fun z68 M68 e68 => ?_)
        rcases e68 with ⟨q, a1, a2, a3, a4, a5⟩ | ⟨T1, e1, a1, a2, a3, a4, a5, a6⟩
        · refine g_if_eqI (t := 85) dX2_readLine_71 (by decide) rfl (fun _ => ?_) (fun c => absurd a2 c)
          refine g_iconstI dX2_readLine_85 rfl rfl (fun w0 h0 => ?_)
          refine g_zretI dX2_readLine_86 rfl (by omega) ?_
          exact ⟨_, rfl, Or.inl ⟨q, by rw [pLine, pIf_neg n_person, pIf_neg n_thing, pIf_pos y_owes, a1]; rfl, h0, a3, a4, a5.f⟩⟩
        · refine g_if_eqI (t := 85) dX2_readLine_71 (by decide) rfl (fun c => by omega) (fun c => ?_)
          have hkp := (pOwe_ok hV r0.2.2.1 a1).1
          refine g_aload_n0 dX2_readLine_74 rfl ?_
          refine g_callVi0 dX2_readLine_75 rfl vX2_85 hA.1 rfl (c_takeStop (x := (T1, sl, sw)) hA (hH.f a6.f) a5 a4) (g_rm (by omega)) (Nat.le_of_ble_eq_true rfl) (fun z8 M8 e8 => ?_)
          rcases e8 with ⟨q, b1, b2, b3, b4⟩ | ⟨e2, b1, b2, b3, b4, b5⟩
          · refine g_if_eqI (t := 85) dX2_readLine_78 (by decide) rfl (fun _ => ?_) (fun c => absurd b2 c)
            refine g_iconstI dX2_readLine_85 rfl rfl (fun w0 h0 => ?_)
            refine g_zretI dX2_readLine_86 rfl (by omega) ?_
            exact ⟨_, rfl, Or.inl ⟨q, by rw [pLine, pIf_neg n_person, pIf_neg n_thing, pIf_pos y_owes, a1]; exact b1, h0, b3, by rw [b4.tv, a3]; exact hkp, frF.tr a6.f b4.d.f⟩⟩
          · refine g_if_eqI (t := 85) dX2_readLine_78 (by decide) rfl (fun c => by omega) (fun c => ?_)
            refine g_iconstI dX2_readLine_81 rfl rfl (fun w1 h1 => ?_)
            refine g_goto (t := 86) dX2_readLine_82 (by decide) ?_
            refine g_zretI dX2_readLine_86 rfl (by omega) ?_
            exact ⟨_, rfl, Or.inr ⟨T1, sl, sw, e2, by rw [pLine, pIf_neg n_person, pIf_neg n_thing, pIf_pos y_owes, a1]; exact b1, h1, by rw [b5.tv]; exact a3, b3, b4, by rw [b5.2.2 4 (by omega), a6.2.2 4 (by omega)]; exact h4, by rw [b5.2.2 5 (by omega), a6.2.2 5 (by omega)]; exact h5, frF.tr a6.f b5.d.f⟩⟩
    · -- 35 f
      have y_thing := f32.mp (by omega)
      clear f32 e32
      refine g_aload_n0 dX2_readLine_38 rfl ?_
      refine g_callVi0 dX2_readLine_39 rfl vX2_90 hA.1 rfl (c_readThing hA hH he hK hT hV) (g_rm (by omega)) (Nat.le_of_ble_eq_true rfl) (fun z39 M39 e39 => ?_)
      rcases e39 with ⟨q, a1, a2, a3, a4, a5⟩ | ⟨T1, e1, a1, a2, a3, a4, a5, a6⟩
      · refine g_if_eqI (t := 56) dX2_readLine_42 (by decide) rfl (fun _ => ?_) (fun c => absurd a2 c)
        refine g_iconstI dX2_readLine_56 rfl rfl (fun w0 h0 => ?_)
        refine g_zretI dX2_readLine_57 rfl (by omega) ?_
        exact ⟨_, rfl, Or.inl ⟨q, by rw [pLine, pIf_neg n_person, pIf_pos y_thing, a1]; rfl, h0, a3, a4, a5.f⟩⟩
      · refine g_if_eqI (t := 56) dX2_readLine_42 (by decide) rfl (fun c => by omega) (fun c => ?_)
        have hkp := (pThg_ok hV he a1).1
        refine g_aload_n0 dX2_readLine_45 rfl ?_
        refine g_callVi0 dX2_readLine_46 rfl vX2_85 hA.1 rfl (c_takeStop (x := (T1, sl, sw)) hA (hH.f a6.f) a5 a4) (g_rm (by omega)) (Nat.le_of_ble_eq_true rfl) (fun z8 M8 e8 => ?_)
        rcases e8 with ⟨q, b1, b2, b3, b4⟩ | ⟨e2, b1, b2, b3, b4, b5⟩
        · refine g_if_eqI (t := 56) dX2_readLine_49 (by decide) rfl (fun _ => ?_) (fun c => absurd b2 c)
          refine g_iconstI dX2_readLine_56 rfl rfl (fun w0 h0 => ?_)
          refine g_zretI dX2_readLine_57 rfl (by omega) ?_
          exact ⟨_, rfl, Or.inl ⟨q, by rw [pLine, pIf_neg n_person, pIf_pos y_thing, a1]; exact b1, h0, b3, by rw [b4.tv, a3]; exact hkp, frF.tr a6.f b4.d.f⟩⟩
        · refine g_if_eqI (t := 56) dX2_readLine_49 (by decide) rfl (fun c => by omega) (fun c => ?_)
          refine g_iconstI dX2_readLine_52 rfl rfl (fun w1 h1 => ?_)
          refine g_goto (t := 57) dX2_readLine_53 (by decide) ?_
          refine g_zretI dX2_readLine_57 rfl (by omega) ?_
          exact ⟨_, rfl, Or.inr ⟨T1, sl, sw, e2, by rw [pLine, pIf_neg n_person, pIf_pos y_thing, a1]; exact b1, h1, by rw [b5.tv]; exact a3, b3, b4, by rw [b5.2.2 4 (by omega), a6.2.2 4 (by omega)]; exact h4, by rw [b5.2.2 5 (by omega), a6.2.2 5 (by omega)]; exact h5, frF.tr a6.f b5.d.f⟩⟩
  · -- 6 f
    have y_person := f3.mp (by omega)
    clear f3 e3
    refine g_aload_n0 dX2_readLine_9 rfl ?_
    refine g_callVi0 dX2_readLine_10 rfl vX2_82 hA.1 rfl (c_readPerson hA hH he hK hT hV) (g_rm (by omega)) (Nat.le_of_ble_eq_true rfl) (fun z10 M10 e10 => ?_)
    rcases e10 with ⟨q, a1, a2, a3, a4, a5⟩ | ⟨T1, e1, a1, a2, a3, a4, a5, a6⟩
    · refine g_if_eqI (t := 27) dX2_readLine_13 (by decide) rfl (fun _ => ?_) (fun c => absurd a2 c)
      refine g_iconstI dX2_readLine_27 rfl rfl (fun w0 h0 => ?_)
      refine g_zretI dX2_readLine_28 rfl (by omega) ?_
      exact ⟨_, rfl, Or.inl ⟨q, by rw [pLine, pIf_pos y_person, a1]; rfl, h0, a3, a4, a5.f⟩⟩
    · refine g_if_eqI (t := 27) dX2_readLine_13 (by decide) rfl (fun c => by omega) (fun c => ?_)
      have hkp := (pOne_ok hV he a1).1
      refine g_aload_n0 dX2_readLine_16 rfl ?_
      refine g_callVi0 dX2_readLine_17 rfl vX2_85 hA.1 rfl (c_takeStop (x := (T1, sl, sw)) hA (hH.f a6.f) a5 a4) (g_rm (by omega)) (Nat.le_of_ble_eq_true rfl) (fun z8 M8 e8 => ?_)
      rcases e8 with ⟨q, b1, b2, b3, b4⟩ | ⟨e2, b1, b2, b3, b4, b5⟩
      · refine g_if_eqI (t := 27) dX2_readLine_20 (by decide) rfl (fun _ => ?_) (fun c => absurd b2 c)
        refine g_iconstI dX2_readLine_27 rfl rfl (fun w0 h0 => ?_)
        refine g_zretI dX2_readLine_28 rfl (by omega) ?_
        exact ⟨_, rfl, Or.inl ⟨q, by rw [pLine, pIf_pos y_person, a1]; exact b1, h0, b3, by rw [b4.tv, a3]; exact hkp, frF.tr a6.f b4.d.f⟩⟩
      · refine g_if_eqI (t := 27) dX2_readLine_20 (by decide) rfl (fun c => by omega) (fun c => ?_)
        refine g_iconstI dX2_readLine_23 rfl rfl (fun w1 h1 => ?_)
        refine g_goto (t := 28) dX2_readLine_24 (by decide) ?_
        refine g_zretI dX2_readLine_28 rfl (by omega) ?_
        exact ⟨_, rfl, Or.inr ⟨T1, sl, sw, e2, by rw [pLine, pIf_pos y_person, a1]; exact b1, h1, by rw [b5.tv]; exact a3, b3, b4, by rw [b5.2.2 4 (by omega), a6.2.2 4 (by omega)]; exact h4, by rw [b5.2.2 5 (by omega), a6.2.2 5 (by omega)]; exact h5, frF.tr a6.f b5.d.f⟩⟩
