set_option maxHeartbeats 1200000 in
theorem lx_round {Γ : gW} {gt : Option Nat} (hA : g_HG Γ gt) {M0 : gM} {T0 : gTw} (hI : INV T0) {p wh : Int32} (hp : 0 ≤ p.toInt ∧ p.toInt < T0 0 0) {Q : Option Value → gM → Prop} (hk : ∀ (M : gM) (T : gTw) (k w : Nat) (gI lI : Int32) (y : Option Value), frSp M0 M → tv M 120 = T → TBt M 120 → rdP T0 p.toInt.toNat k T w → rdE p.toInt.toNat k T w → k ≤ 20 → gI.toInt = (k : Int) → lI.toInt = (w : Int) → G Γ μX5_round (g_RX 5) (0, 0) (g_Z Γ Q) 79 [some (.ref 0), some (.int p), some (.int wh), some (.int gI), some (.int lI), y] [] M) : ∀ (n9 : Nat) (gI lI : Int32) (y : Option Value) (M : gM) (T : gTw) (k w : Nat), 20 - k = n9 → frSp M0 M → tv M 120 = T → TBt M 120 → rdP T0 p.toInt.toNat k T w → k ≤ 20 → gI.toInt = (k : Int) → lI.toInt = (w : Int) → G Γ μX5_round (g_RX 5) (0, 0) (g_Z Γ Q) 27 [some (.ref 0), some (.int p), some (.int wh), some (.int gI), some (.int lI), y] [] M := by
  intro n9
  induction n9 using Nat.strongRecOn with
  | ind n9 ih =>
    intro gI lI y M T k w hn hF hT hTt hrd hk20 hgI hlI
    obtain ⟨hIT, hw, hsame⟩ := rdP_inv hI (by omega) _ _ _ hrd
    have hO := hIT.1
    have hb0 := hO.1
    have hB : TB M 120 := TB.of (by rw [hT]; exact hO) hTt
    have ewl : lI.toInt.toNat = w := by omega
    refine g_iload_n3 dX5_round_27 rfl ?_
    refine g_bipushI dX5_round_28 rfl rfl (fun w28 h28 => ?_)
    refine g_icmp_geI (t := 79) dX5_round_30 (by decide) rfl (fun c30 => ?_) (fun c30 => ?_)
    · -- 30 t
      have hE : rdE p.toInt.toNat k T w := Or.inl (by omega)
      first
        | exact hk _ _ _ _ _ _ _ hF hT hTt hrd hE hk20 hgI hlI
        | exact hk _ _ _ _ _ _ _ hF2 hT2 hTt2 hrd (Or.inr (Or.inr hc)) hk20 hgI hlI
    · -- 30 f
      refine g_iload_n3 dX5_round_33 rfl ?_
      refine g_if_eqI (t := 43) dX5_round_34 (by decide) rfl (fun c34 => ?_) (fun c34 => ?_)
      · -- 34 t
        have hgo : k = 0 ∨ w ≠ p.toInt.toNat := Or.inl (by omega)
        refine g_aload_n0 dX5_round_43 rfl ?_
        refine g_getr dX5_round_44 rfl fX5_16 hA.1 rfl ?_
        refine g_iload4 dX5_round_47 rfl ?_
        refine g_callVi1 dX5_round_49 rfl vX5_210 (hg_spare hA).1 rfl (c_takerFor (hg_spare hA) hB (by omega)) (g_rmX (by omega)) (Nat.le_of_ble_eq_true rfl) (fun z49 M49 e49 => ?_)
        obtain ⟨hMM, e49⟩ := e49
        subst M49
        rw [ewl, v_taker hB (by omega), hT] at e49
        refine g_istore5 dX5_round_52 rfl rfl ?_
        refine g_aload_n0 dX5_round_54 rfl ?_
        refine g_getr dX5_round_55 rfl fX5_16 hA.1 rfl ?_
        refine g_iload4 dX5_round_58 rfl ?_
        refine g_callVi1 dX5_round_60 rfl vX5_285 (hg_spare hA).1 rfl (c_giveByChoice (hg_spare hA) hB (by omega)) (g_rmX (by omega)) (Nat.le_of_ble_eq_true rfl) (fun z60 M60 e60 => ?_)
        rw [ewl] at e60
        obtain ⟨hst, hfr1, hfr2⟩ := v_gbc hB hT hIT hw e60
        clear e60
        have hF2 : frSp M0 M60 := frSp.tr hF ⟨fun j a => hfr1 j (by omega) (by omega) (by omega) (by omega), hfr2⟩
        have hTt2 : TBt M60 120 := TBt.far hTt (hfr1 _ (by decide) (by decide) (by decide) (by decide)) (hfr1 _ (by decide) (by decide) (by decide) (by decide)) (hfr1 _ (by decide) (by decide) (by decide) (by decide))
        clear hfr1 hfr2
        refine g_if_neI (t := 69) dX5_round_63 (by decide) rfl (fun c63 => ?_) (fun c63 => ?_)
        · -- 63 t
          obtain ⟨n, hc, hT2⟩ : ∃ n : Nat, chosenT T w (n : Int) ∧ tv M60 120 = choT T w n := by
            rcases hst with ⟨z0, -⟩ | ⟨-, h⟩
            · omega
            · exact h
          clear hst
          obtain ⟨-, tk0, tk1⟩ := chosenT_can hO hw hc hIT.2.2
          refine g_iload5 dX5_round_69 rfl ?_
          refine g_istore4 dX5_round_71 rfl rfl ?_
          refine g_iincI3 dX5_round_73 rfl rfl rfl ⟨by omega, by omega⟩ (fun w73 h73 => ?_)
          refine g_goto (t := 27) dX5_round_76 (by decide) ?_
          exact ih _ (show 20 - (k + 1) < n9 by omega) _ _ _ M60 (choT T w n) (k + 1) (takerT T w).toNat rfl hF2 hT2 hTt2 ⟨T, w, n, hrd, hgo, hc, rfl, rfl⟩ (by omega) (by omega) (by omega)
        · -- 63 f
          obtain ⟨hc, hT2⟩ : chosenT T w (-1) ∧ tv M60 120 = T := by
            rcases hst with ⟨-, h⟩ | ⟨z1, -⟩
            · exact h
            · omega
          clear hst
          refine g_goto (t := 79) dX5_round_66 (by decide) ?_
          first
            | exact hk _ _ _ _ _ _ _ hF hT hTt hrd hE hk20 hgI hlI
            | exact hk _ _ _ _ _ _ _ hF2 hT2 hTt2 hrd (Or.inr (Or.inr hc)) hk20 hgI hlI
      · -- 34 f
        refine g_iload4 dX5_round_37 rfl ?_
        refine g_iload_n1 dX5_round_39 rfl ?_
        refine g_icmp_eqI (t := 79) dX5_round_40 (by decide) rfl (fun c40 => ?_) (fun c40 => ?_)
        · -- 40 t
          have hE : rdE p.toInt.toNat k T w := Or.inr (Or.inl ⟨by omega, by omega⟩)
          first
            | exact hk _ _ _ _ _ _ _ hF hT hTt hrd hE hk20 hgI hlI
            | exact hk _ _ _ _ _ _ _ hF2 hT2 hTt2 hrd (Or.inr (Or.inr hc)) hk20 hgI hlI
        · -- 40 f
          have hgo : k = 0 ∨ w ≠ p.toInt.toNat := Or.inr (by omega)
          refine g_aload_n0 dX5_round_43 rfl ?_
          refine g_getr dX5_round_44 rfl fX5_16 hA.1 rfl ?_
          refine g_iload4 dX5_round_47 rfl ?_
          refine g_callVi1 dX5_round_49 rfl vX5_210 (hg_spare hA).1 rfl (c_takerFor (hg_spare hA) hB (by omega)) (g_rmX (by omega)) (Nat.le_of_ble_eq_true rfl) (fun z49 M49 e49 => ?_)
          obtain ⟨hMM, e49⟩ := e49
          subst M49
          rw [ewl, v_taker hB (by omega), hT] at e49
          refine g_istore5 dX5_round_52 rfl rfl ?_
          refine g_aload_n0 dX5_round_54 rfl ?_
          refine g_getr dX5_round_55 rfl fX5_16 hA.1 rfl ?_
          refine g_iload4 dX5_round_58 rfl ?_
          refine g_callVi1 dX5_round_60 rfl vX5_285 (hg_spare hA).1 rfl (c_giveByChoice (hg_spare hA) hB (by omega)) (g_rmX (by omega)) (Nat.le_of_ble_eq_true rfl) (fun z60 M60 e60 => ?_)
          rw [ewl] at e60
          obtain ⟨hst, hfr1, hfr2⟩ := v_gbc hB hT hIT hw e60
          clear e60
          have hF2 : frSp M0 M60 := frSp.tr hF ⟨fun j a => hfr1 j (by omega) (by omega) (by omega) (by omega), hfr2⟩
          have hTt2 : TBt M60 120 := TBt.far hTt (hfr1 _ (by decide) (by decide) (by decide) (by decide)) (hfr1 _ (by decide) (by decide) (by decide) (by decide)) (hfr1 _ (by decide) (by decide) (by decide) (by decide))
          clear hfr1 hfr2
          refine g_if_neI (t := 69) dX5_round_63 (by decide) rfl (fun c63 => ?_) (fun c63 => ?_)
          · -- 63 t
            obtain ⟨n, hc, hT2⟩ : ∃ n : Nat, chosenT T w (n : Int) ∧ tv M60 120 = choT T w n := by
              rcases hst with ⟨z0, -⟩ | ⟨-, h⟩
              · omega
              · exact h
            clear hst
            obtain ⟨-, tk0, tk1⟩ := chosenT_can hO hw hc hIT.2.2
            refine g_iload5 dX5_round_69 rfl ?_
            refine g_istore4 dX5_round_71 rfl rfl ?_
            refine g_iincI3 dX5_round_73 rfl rfl rfl ⟨by omega, by omega⟩ (fun w73 h73 => ?_)
            refine g_goto (t := 27) dX5_round_76 (by decide) ?_
            exact ih _ (show 20 - (k + 1) < n9 by omega) _ _ _ M60 (choT T w n) (k + 1) (takerT T w).toNat rfl hF2 hT2 hTt2 ⟨T, w, n, hrd, hgo, hc, rfl, rfl⟩ (by omega) (by omega) (by omega)
          · -- 63 f
            obtain ⟨hc, hT2⟩ : chosenT T w (-1) ∧ tv M60 120 = T := by
              rcases hst with ⟨-, h⟩ | ⟨z1, -⟩
              · exact h
              · omega
            clear hst
            refine g_goto (t := 79) dX5_round_66 (by decide) ?_
            first
              | exact hk _ _ _ _ _ _ _ hF hT hTt hrd hE hk20 hgI hlI
              | exact hk _ _ _ _ _ _ _ hF2 hT2 hTt2 hrd (Or.inr (Or.inr hc)) hk20 hgI hlI
theorem woT_rng {T : gTw} {s : Nat} (hO : TOK T) : 0 ≤ woT T s ∧ woT T s ≤ 11988 := by
  have hb := hO.2.1
  have := wsum_le (w := T 8) (B := 999) (n := (T 0 1).toNat) (s := s) (fun j hj => (hO.2.2.2.2.2.2.2 j (by omega)).2) (by omega)
  rw [woT]; omega
set_option maxHeartbeats 1200000 in
theorem x_round {Γ : gW} {gt : Option Nat} {M : gM} (hA : g_HG Γ gt) {T : gTw} (hT : tv M 100 = T) (hB : TB M 100) (hI : INV T) {p wh : Int32} : CtX Γ yX5_round μX5_round 5 [.ref 0, .int p, .int wh] M (g_qi (fun z M1 => frSp M M1 ∧ (0 ≤ p.toInt ∧ p.toInt < T 0 0 ∧ 0 ≤ wh.toInt ∧ wh.toInt ≤ 2) ∧ ∃ (k : Nat) (T' : gTw) (w : Nat), rdP T p.toInt.toNat k T' w ∧ rdE p.toInt.toNat k T' w ∧ k ≤ 20 ∧ z.toInt = if wh.toInt = 0 then (k : Int) else if wh.toInt = 1 then (w : Int) else woT T' (hasT T' p.toInt.toNat) - woT T (hasT T p.toInt.toNat))) (nseX M (¬ (0 ≤ p.toInt ∧ p.toInt < T 0 0 ∧ 0 ≤ wh.toInt ∧ wh.toInt ≤ 2))) := by
  have hO : TOK T := by rw [← hT]; exact TOK.of hB
  have hb0 := hO.1
  have hb1 := hO.2.1
  have t00 : (M.1 100 0).toInt = T 0 0 := by rw [← hT]; exact (tv0 (by decide)).symm
  have t01 : (M.1 100 1).toInt = T 0 1 := by rw [← hT]; exact (tv0 (by decide)).symm
  refine g_enterX rfl rfl rfl (Nat.le_of_ble_eq_true rfl) ?_
  show G Γ _ _ _ _ 0 [some (.ref 0), some (.int p), some (.int wh), none, none, none] [] M
  refine g_aload_n0 dX5_round_0 rfl ?_
  refine g_iload_n1 dX5_round_1 rfl ?_
  refine g_callXv1 dX5_round_2 rfl vX5_132 hA.1 rfl (x_reqP hA t00) (g_rmY (by omega)) (Nat.le_of_ble_eq_true rfl) (fun E M1 h => ⟨h.1, h.2.1, by have := h.2.2; omega⟩) (fun M2 e2 => ?_)
  obtain ⟨hMM, q2⟩ := e2
  subst M2
  refine g_aload_n0 dX5_round_5 rfl ?_
  refine g_iload_n2 dX5_round_6 rfl ?_
  refine g_iconstI dX5_round_7 rfl rfl (fun w7 h7 => ?_)
  refine g_callXv2 dX5_round_8 rfl vX5_200 hA.1 rfl (x_reqW) (g_rmY (by omega)) (Nat.le_of_ble_eq_true rfl) (fun E M1 h => ⟨h.1, h.2.1, by have := h.2.2; omega⟩) (fun M8 e8 => ?_)
  obtain ⟨hMM, q8⟩ := e8
  subst M8
  refine g_aload_n0 dX5_round_11 rfl ?_
  refine g_getr dX5_round_12 rfl fX5_16 hA.1 rfl ?_
  refine g_aload_n0 dX5_round_15 rfl ?_
  refine g_getr dX5_round_16 rfl fX5_10 hA.1 rfl ?_
  refine g_callVv1 dX5_round_19 rfl vX5_106 (hg_spare hA).1 rfl (c_copyFrom (hg_spare hA) (hg_town hA) (Or.inr (by decide))) (g_rmX (by omega)) (Nat.le_of_ble_eq_true rfl) (fun M19 e19 => ?_)
  refine g_iconstI dX5_round_22 rfl rfl (fun w22 h22 => ?_)
  refine g_istore_n3 dX5_round_23 rfl rfl ?_
  refine g_iload_n1 dX5_round_24 rfl ?_
  refine g_istore4 dX5_round_25 rfl rfl ?_
  refine g_toX ?_
  refine lx_round hA hI (M0 := M) (by omega) (fun M2 T2 k w gI lI y hF2 hT2 hTt2 hrd hE hk20 hgI hlI => ?_) _ _ _ _ M19 T 0 p.toInt.toNat rfl ⟨fun j a => e19.1 j (by omega), e19.2.1⟩ (by rw [v_copy e19]; exact hT) (TB.copy e19 hB).2.2.2 ⟨rfl, rfl⟩ (by omega) (by omega) (by omega)
  obtain ⟨hIT, hw, hsame⟩ := rdP_inv hI (by omega) _ _ _ hrd
  have hB2 : TB M2 120 := TB.of (by rw [hT2]; exact hIT.1) hTt2
  have hp6 : p.toInt.toNat < 6 := by omega
  have hb6 := (hIT.1.2.2.2.2.2.2.1 p.toInt.toNat hp6).2.2.2.2.2.1
  have hb6b := (hO.2.2.2.2.2.2.1 p.toInt.toNat hp6).2.2.2.2.2.1
  have s100 : tv M2 100 = T := by rw [← hT]; exact tv_far (fun j a b => hF2.1 j (by omega))
  have hBM : TB M2 100 := TB.of (by rw [s100]; exact hO) (TBt.far hB.2.2.2 (hF2.1 _ (by decide)) (hF2.1 _ (by decide)) (hF2.1 _ (by decide)))
  have h6a : T2 6 p.toInt.toNat = (M2.1 (120 + 6) p.toInt.toNat).toInt := by rw [← hT2]; exact tvp (by decide) hp6
  have h6b : T 6 p.toInt.toNat = (M2.1 (100 + 6) p.toInt.toNat).toInt := by rw [← s100]; exact tvp (by decide) hp6
  refine g_iload_n2 dX5_round_79 rfl ?_
  rcases (show wh.toInt = 0 ∨ wh.toInt = 1 ∨ (¬ wh.toInt = 0 ∧ ¬ wh.toInt = 1) by omega) with c80 | c80 | c80
  · -- 80 case 0
    refine g_lookup (off := 28) (t := 108) dX5_round_80 (by decide) (by rw [c80]; rfl) (by decide) ?_
    refine g_iload_n3 dX5_round_108 rfl ?_
    refine g_iret dX5_round_109 rfl ?_
    exact ⟨_, rfl, hF2, by omega, k, T2, w, hrd, hE, hk20, by rw [c80, hgI]; rfl⟩
  · -- 80 case 1
    refine g_lookup (off := 30) (t := 110) dX5_round_80 (by decide) (by rw [c80]; rfl) (by decide) ?_
    refine g_iload4 dX5_round_110 rfl ?_
    refine g_iret dX5_round_112 rfl ?_
    exact ⟨_, rfl, hF2, by omega, k, T2, w, hrd, hE, hk20, by rw [c80, hlI]; rfl⟩
  · -- 80 default
    refine g_lookup (off := 33) (t := 113) dX5_round_80 (by decide) (by simp [Op.lookupswitch.offset]; omega) (by decide) ?_
    refine g_aload_n0 dX5_round_113 rfl ?_
    refine g_getr dX5_round_114 rfl fX5_16 hA.1 rfl ?_
    refine g_aload_n0 dX5_round_117 rfl ?_
    refine g_getr dX5_round_118 rfl fX5_16 hA.1 rfl ?_
    refine g_getr dX5_round_121 rfl fX5_147 (hg_spare hA).1 rfl ?_
    refine g_iload_n1 dX5_round_124 rfl ?_
    refine g_ialdI dX5_round_125 rfl (tw_has (hg_spare hA)) ⟨by omega, by omega⟩ ?_
    refine g_callVi1 dX5_round_126 rfl vX5_150 (hg_spare hA).1 rfl (c_worthOf (hg_spare hA) hB2 (by omega)) (g_rmX (by omega)) (Nat.le_of_ble_eq_true rfl) (fun z126 M126 e126 => ?_)
    obtain ⟨hMM, e126⟩ := e126
    subst M126
    have e126b : z126.toInt = woT T2 (hasT T2 p.toInt.toNat) := by
      rw [e126]
      show worthS M2 120 _ = _
      rw [v_wo hB2, hT2, hasT, h6a]
    clear e126
    refine g_aload_n0 dX5_round_129 rfl ?_
    refine g_getr dX5_round_130 rfl fX5_10 hA.1 rfl ?_
    refine g_aload_n0 dX5_round_133 rfl ?_
    refine g_getr dX5_round_134 rfl fX5_10 hA.1 rfl ?_
    refine g_getr dX5_round_137 rfl fX5_147 (hg_town hA).1 rfl ?_
    refine g_iload_n1 dX5_round_140 rfl ?_
    refine g_ialdI dX5_round_141 rfl (tw_has (hg_town hA)) ⟨by omega, by omega⟩ ?_
    refine g_callVi1 dX5_round_142 rfl vX5_150 (hg_town hA).1 rfl (c_worthOf (hg_town hA) hBM (by omega)) (g_rmX (by omega)) (Nat.le_of_ble_eq_true rfl) (fun z142 M142 e142 => ?_)
    obtain ⟨hMM, e142⟩ := e142
    subst M142
    have e142b : z142.toInt = woT T (hasT T p.toInt.toNat) := by
      rw [e142]
      show worthS M2 100 _ = _
      rw [v_wo hBM, s100, hasT, h6b]
    clear e142
    have w1 := woT_rng (s := hasT T2 p.toInt.toNat) hIT.1
    have w2 := woT_rng (s := hasT T p.toInt.toNat) hO
    refine g_isubI dX5_round_145 rfl ⟨by omega, by omega⟩ (fun w145 h145 => ?_)
    refine g_iret dX5_round_146 rfl ?_
    refine ⟨_, rfl, hF2, by omega, k, T2, w, hrd, hE, hk20, ?_⟩
    rw [if_neg c80.1, if_neg c80.2, h145, e126b, e142b]
def frDy (M M' : gM) : Prop := (∀ j, j ≠ 220 → j ≠ 221 → ¬ (100 ≤ j ∧ j ≤ 110) → M'.1 j = M.1 j) ∧ M'.2 = M.2
theorem frDy.tr {M M1 M2 : gM} (h : frDy M M1) (h2 : frDy M1 M2) : frDy M M2 := ⟨fun j a b c => by rw [h2.1 j a b c, h.1 j a b c], by rw [h2.2, h.2]⟩
theorem frB.dy {M M1 : gM} (h : frB M M1) : frDy M M1 := ⟨fun j a b c => h.1 j a b (by omega), h.2⟩
theorem CSB.day {S : gSt} {M M1 : gM} (hI : INV S.1) (h : CSB S M) (he : ED M M1 100) : CSB (dayT S.1, S.2) M1 := by
  obtain ⟨hT, hTt, h0, h1, h2⟩ := h
  have hB : TB M 100 := TB.of (by rw [hT]; exact hI.1) hTt
  have hv := v_ED hB he
  obtain ⟨e1, -, -, -, -, e6⟩ := he
  exact ⟨by rw [hv, hT], e6, by rw [e1 220 (by decide) (by decide) (by decide) (by decide)]; exact h0, h1, fun i hi j hj => by rw [e1 221 (by decide) (by decide) (by decide) (by decide)]; exact h2 i hi j hj⟩
set_option maxHeartbeats 1200000 in
theorem lx_pass {Γ : gW} {gt : Option Nat} (hA : g_HG Γ gt) {M0 : gM} {S0 : gSt} (hI : INV S0.1) (hg0 : S0.2.1 ≤ 200) {Q : Option Value → gM → Prop} (hQ : ∀ (M : gM) (S : gSt), frDy M0 M → CSB (dayT S.1, S.2) M → pdP S0 (S0.1 0 0).toNat S → Q none M) : ∀ (n9 : Nat) (p : Int32) (y : Option Value) (M : gM) (S : gSt), 6 - p.toInt.toNat = n9 → 0 ≤ p.toInt → p.toInt ≤ S0.1 0 0 → frDy M0 M → CSB S M → pdP S0 p.toInt.toNat S → G Γ μX5_passDayByBook (g_R 4) (0, 0) (g_Z Γ Q) 2 [some (.ref 0), some (.int p), y] [] M := by
  intro n9
  induction n9 using Nat.strongRecOn with
  | ind n9 ih =>
    intro p y M S hn hp0 hp1 hF hS hpd
    have hb1 := hI.1.1
    obtain ⟨hIT, hS200, -, hsame⟩ := pdP_inv hI hg0 _ _ (by omega) hpd
    have s00 := hsame 0 0 (by decide) (by decide) (by decide) (by decide)
    obtain ⟨hT, hTt, h0, h1, h2⟩ := id hS
    have hO := hIT.1
    have hb0 := hO.1
    have hB : TB M 100 := TB.of (by rw [hT]; exact hO) hTt
    have t00 : (M.1 100 0).toInt = S.1 0 0 := by rw [← hT]; exact (tv0 (by decide)).symm
    refine g_iload_n1 dX5_passDayByBook_2 rfl ?_
    refine g_aload_n0 dX5_passDayByBook_3 rfl ?_
    refine g_getr dX5_passDayByBook_4 rfl fX5_10 hA.1 rfl ?_
    refine g_geti dX5_passDayByBook_7 rfl fX5_113 (hg_town hA).1 rfl ?_
    refine g_icmp_geI (t := 66) dX5_passDayByBook_10 (by decide) rfl (fun c10 => ?_) (fun c10 => ?_)
    · -- 10 t
      refine g_aload_n0 dX5_passDayByBook_66 rfl ?_
      refine g_getr dX5_passDayByBook_67 rfl fX5_10 hA.1 rfl ?_
      refine g_callVv0 dX5_passDayByBook_70 rfl vX5_291 (hg_town hA).1 rfl (c_endDay (hg_town hA) hB) (g_rm (by omega)) (Nat.le_of_ble_eq_true rfl) (fun M70 e70 => ?_)
      refine g_vret dX5_passDayByBook_73 rfl ?_
      refine hQ _ S (frDy.tr hF ⟨fun j a b c => e70.1 j (by omega) (by omega) (by omega) (by omega), e70.2.1⟩) (CSB.day hIT hS e70) (by rw [show (S0.1 0 0).toNat = p.toInt.toNat by omega]; exact hpd)
    · -- 10 f
      refine g_aload_n0 dX5_passDayByBook_13 rfl ?_
      refine g_getr dX5_passDayByBook_14 rfl fX5_10 hA.1 rfl ?_
      refine g_iload_n1 dX5_passDayByBook_17 rfl ?_
      refine g_callVi1 dX5_passDayByBook_18 rfl vX5_204 (hg_town hA).1 rfl (c_chosenSet (hg_town hA) hB (by omega)) (g_rm (by omega)) (Nat.le_of_ble_eq_true rfl) (fun z18 M18 e18 => ?_)
      have hp6 : p.toInt.toNat < 6 := by omega
      obtain ⟨hMM, e18⟩ := e18
      subst M18
      rw [v_chosen hB hp6, hT] at e18
      have hzr := chosen_rng hO hp6 e18
      refine g_istore_n2 dX5_passDayByBook_21 rfl rfl ?_
      refine g_iload_n2 dX5_passDayByBook_22 rfl ?_
      refine g_iconstI dX5_passDayByBook_23 rfl rfl (fun w23 h23 => ?_)
      refine g_icmp_eqI (t := 60) dX5_passDayByBook_24 (by decide) rfl (fun c24 => ?_) (fun c24 => ?_)
      · -- 24 t
        have hcn : chosenT S.1 p.toInt.toNat (-1) := by rw [show (-1 : Int) = z18.toInt by omega]; exact e18
        refine g_iincI1 dX5_passDayByBook_60 rfl rfl rfl ⟨by omega, by omega⟩ (fun w60 h60 => ?_)
        refine g_goto (t := 2) dX5_passDayByBook_63 (by decide) ?_
        have e1 : w60.toInt.toNat = p.toInt.toNat + 1 := by omega
        first
          | (have hz9 := e57
             refine ih _ (show 6 - w60.toInt.toNat < n9 by omega) _ _ _ _ rfl (by omega) (by omega) (frDy.tr hF (frB.dy e57.2)) e57.1 ?_
             rw [e1]
             exact ⟨S, hpd, Or.inr ⟨n, hch, by omega, rfl⟩⟩)
          | (refine ih _ (show 6 - w60.toInt.toNat < n9 by omega) _ _ _ S rfl (by omega) (by omega) hF hS ?_
             rw [e1]
             first
               | exact ⟨S, hpd, Or.inl ⟨Or.inl hcn, rfl⟩⟩
               | exact ⟨S, hpd, Or.inl ⟨Or.inr hfl, rfl⟩⟩)
      · -- 24 f
        obtain ⟨n, hz⟩ : ∃ n : Nat, z18.toInt = (n : Int) := ⟨z18.toInt.toNat, by omega⟩
        have hch : chosenT S.1 p.toInt.toNat (n : Int) := by rw [← hz]; exact e18
        obtain ⟨hcan, tk0, tk1⟩ := chosenT_can hO (by omega) hch hIT.2.2
        refine g_aload_n0 dX5_passDayByBook_27 rfl ?_
        refine g_getr dX5_passDayByBook_28 rfl fX5_22 hA.1 rfl ?_
        refine g_callVi0 dX5_passDayByBook_31 rfl vX5_175 (hg_book hA).1 rfl (c_bkIsFull (hg_book hA)) (g_rm (by omega)) (Nat.le_of_ble_eq_true rfl) (fun z31 M31 e31 => ?_)
        obtain ⟨hMM, e31, f31⟩ := e31
        subst M31
        refine g_if_neI (t := 60) dX5_passDayByBook_34 (by decide) rfl (fun c34 => ?_) (fun c34 => ?_)
        · -- 34 t
          have hfl : S.2.1 = 200 := by have := f31.mp (by omega); omega
          clear f31 e31
          refine g_iincI1 dX5_passDayByBook_60 rfl rfl rfl ⟨by omega, by omega⟩ (fun w60 h60 => ?_)
          refine g_goto (t := 2) dX5_passDayByBook_63 (by decide) ?_
          have e1 : w60.toInt.toNat = p.toInt.toNat + 1 := by omega
          first
            | (have hz9 := e57
               refine ih _ (show 6 - w60.toInt.toNat < n9 by omega) _ _ _ _ rfl (by omega) (by omega) (frDy.tr hF (frB.dy e57.2)) e57.1 ?_
               rw [e1]
               exact ⟨S, hpd, Or.inr ⟨n, hch, by omega, rfl⟩⟩)
            | (refine ih _ (show 6 - w60.toInt.toNat < n9 by omega) _ _ _ S rfl (by omega) (by omega) hF hS ?_
               rw [e1]
               first
                 | exact ⟨S, hpd, Or.inl ⟨Or.inl hcn, rfl⟩⟩
                 | exact ⟨S, hpd, Or.inl ⟨Or.inr hfl, rfl⟩⟩)
        · -- 34 f
          have hnf : S.2.1 < 200 := by
            by_cases q : S.2.1 < 200
            · exact q
            · have := f31.mpr (by omega); omega
          clear f31 e31
          refine g_aload_n0 dX5_passDayByBook_37 rfl ?_
          refine g_iload_n1 dX5_passDayByBook_38 rfl ?_
          refine g_iload_n2 dX5_passDayByBook_39 rfl ?_
          refine g_aload_n0 dX5_passDayByBook_40 rfl ?_
          refine g_getr dX5_passDayByBook_41 rfl fX5_10 hA.1 rfl ?_
          refine g_iload_n1 dX5_passDayByBook_44 rfl ?_
          refine g_iload_n2 dX5_passDayByBook_45 rfl ?_
          refine g_callVi2 dX5_passDayByBook_46 rfl vX5_207 (hg_town hA).1 rfl (c_sandFor (hg_town hA) hB (by omega) (by omega)) (g_rm (by omega)) (Nat.le_of_ble_eq_true rfl) (fun z46 M46 e46 => ?_)
          obtain ⟨hMM, e46⟩ := e46
          subst M46
          rw [v_sand hp6, hT, show z18.toInt.toNat = n by omega] at e46
          refine g_aload_n0 dX5_passDayByBook_49 rfl ?_
          refine g_getr dX5_passDayByBook_50 rfl fX5_10 hA.1 rfl ?_
          refine g_iload_n1 dX5_passDayByBook_53 rfl ?_
          refine g_callVi1 dX5_passDayByBook_54 rfl vX5_210 (hg_town hA).1 rfl (c_takerFor (hg_town hA) hB (by omega)) (g_rm (by omega)) (Nat.le_of_ble_eq_true rfl) (fun z54 M54 e54 => ?_)
          obtain ⟨hMM, e54⟩ := e54
          subst M54
          rw [v_taker hB hp6, hT] at e54
          refine g_callVv4 dX5_passDayByBook_57 rfl vX5_179 hA.1 rfl (x_makeGift (p := p.toInt.toNat) (s := n) (n := sandT S.1 p.toInt.toNat n) (k := (takerT S.1 p.toInt.toNat).toNat) hA hIT hS hnf hcan (by omega) hz e46 (by omega)) (g_rm (by omega)) (Nat.le_of_ble_eq_true rfl) (fun M57 e57 => ?_)
          refine g_iincI1 dX5_passDayByBook_60 rfl rfl rfl ⟨by omega, by omega⟩ (fun w60 h60 => ?_)
          refine g_goto (t := 2) dX5_passDayByBook_63 (by decide) ?_
          have e1 : w60.toInt.toNat = p.toInt.toNat + 1 := by omega
          first
            | (have hz9 := e57
               refine ih _ (show 6 - w60.toInt.toNat < n9 by omega) _ _ _ _ rfl (by omega) (by omega) (frDy.tr hF (frB.dy e57.2)) e57.1 ?_
               rw [e1]
               exact ⟨S, hpd, Or.inr ⟨n, hch, by omega, rfl⟩⟩)
            | (refine ih _ (show 6 - w60.toInt.toNat < n9 by omega) _ _ _ S rfl (by omega) (by omega) hF hS ?_
               rw [e1]
               first
                 | exact ⟨S, hpd, Or.inl ⟨Or.inl hcn, rfl⟩⟩
                 | exact ⟨S, hpd, Or.inl ⟨Or.inr hfl, rfl⟩⟩)
set_option maxHeartbeats 1200000 in
theorem x_pass {Γ : gW} {gt : Option Nat} {M : gM} (hA : g_HG Γ gt) {S : gSt} (hI : INV S.1) (hS : CSB S M) : Ct Γ yX5_passDayByBook μX5_passDayByBook 4 [.ref 0] M (g_qv (fun M1 => frDy M M1 ∧ ∃ S1, CSB (dayT S1.1, S1.2) M1 ∧ pdP S (S.1 0 0).toNat S1)) := by
  have hb0 := hI.1.1
  have hs2 := hS.2.2.2.1
  refine g_enter rfl rfl rfl (Nat.le_of_ble_eq_true rfl) ?_
  show G Γ _ _ _ _ 0 [some (.ref 0), none, none] [] M
  refine g_iconstI dX5_passDayByBook_0 rfl rfl (fun w0 h0 => ?_)
  refine g_istore_n1 dX5_passDayByBook_1 rfl rfl ?_
  exact lx_pass hA hI hs2 (M0 := M) (fun M2 S2 a b c => ⟨rfl, a, S2, b, c⟩) _ _ _ M S rfl (by omega) (by omega) ⟨fun _ _ _ _ => rfl, rfl⟩ hS (by rw [h0]; rfl)
set_option maxHeartbeats 1200000 in
theorem lx_days {Γ : gW} {gt : Option Nat} (hA : g_HG Γ gt) {M0 : gM} {S0 : gSt} (hI : INV S0.1) (hg0 : S0.2.1 ≤ 200) (hdy : S0.1 0 4 + 60 ≤ 100000) {nn b : Int32} (hnn : 0 ≤ nn.toInt ∧ nn.toInt ≤ 60) (hb : b.toInt = (S0.2.1 : Int)) {Q : Option Value → gM → Prop} (hQ : ∀ (M : gM) (S : gSt) (z : Int32), frDy M0 M → CSB S M → dyP S0 nn.toInt.toNat S → z.toInt = (S.2.1 : Int) - (S0.2.1 : Int) → Q (some (.int z)) M) : ∀ (n9 : Nat) (i : Int32) (M : gM) (S : gSt), 60 - i.toInt.toNat = n9 → 0 ≤ i.toInt → i.toInt ≤ nn.toInt → frDy M0 M → CSB S M → dyP S0 i.toInt.toNat S → G Γ μX5_days (g_RX 5) (0, 0) (g_Z Γ Q) 28 [some (.ref 0), some (.int nn), some (.int b), some (.int i)] [] M := by
  intro n9
  induction n9 using Nat.strongRecOn with
  | ind n9 ih =>
    intro i M S hn hi0 hi1 hF hS hdp
    obtain ⟨hIT, hS200, hSge, hday⟩ := dyP_inv hI hg0 _ _ (by omega) hdp
    have h0 := hS.2.2.1
    refine g_iload_n3 dX5_days_28 rfl ?_
    refine g_iload_n1 dX5_days_29 rfl ?_
    refine g_icmp_geI (t := 43) dX5_days_30 (by decide) rfl (fun c30 => ?_) (fun c30 => ?_)
    · -- 30 t
      refine g_aload_n0 dX5_days_43 rfl ?_
      refine g_getr dX5_days_44 rfl fX5_22 hA.1 rfl ?_
      refine g_callVi0 dX5_days_47 rfl vX5_128 (hg_book hA).1 rfl (c_bkLength (hg_book hA)) (g_rmX (by omega)) (Nat.le_of_ble_eq_true rfl) (fun z47 M47 e47 => ?_)
      obtain ⟨hMM, e47⟩ := e47
      subst M47
      have e47i : z47.toInt = (S.2.1 : Int) := by rw [e47]; exact h0
      refine g_iload_n2 dX5_days_50 rfl ?_
      refine g_isubI dX5_days_51 rfl ⟨by omega, by omega⟩ (fun w51 h51 => ?_)
      refine g_iret dX5_days_52 rfl ?_
      exact hQ _ S _ hF hS (by rw [show nn.toInt.toNat = i.toInt.toNat by omega]; exact hdp) (by omega)
    · -- 30 f
      refine g_aload_n0 dX5_days_33 rfl ?_
      refine g_callVv0 dX5_days_34 rfl vX5_288 hA.1 rfl (x_pass hA hIT hS) (g_rmX (by omega)) (Nat.le_of_ble_eq_true rfl) (fun M34 e34 => ?_)
      obtain ⟨hF2, S1, hS1, hpd⟩ := e34
      refine g_iincI3 dX5_days_37 rfl rfl rfl ⟨by omega, by omega⟩ (fun w37 h37 => ?_)
      refine g_goto (t := 28) dX5_days_40 (by decide) ?_
      refine ih _ (show 60 - w37.toInt.toNat < n9 by omega) _ _ _ rfl (by omega) (by omega) (frDy.tr hF hF2) hS1 ?_
      rw [show w37.toInt.toNat = i.toInt.toNat + 1 by omega]
      exact ⟨S, S1, hdp, hpd, rfl⟩
set_option maxHeartbeats 1200000 in
theorem x_days {Γ : gW} {gt : Option Nat} {M : gM} (hA : g_HG Γ gt) {S : gSt} (hI : INV S.1) (hS : CSB S M) (hdy : S.1 0 4 + 60 ≤ 100000) {nn : Int32} : CtX Γ yX5_days μX5_days 5 [.ref 0, .int nn] M (g_qi (fun z M1 => frDy M M1 ∧ (0 ≤ nn.toInt ∧ nn.toInt ≤ 60) ∧ ∃ S1, CSB S1 M1 ∧ dyP S nn.toInt.toNat S1 ∧ z.toInt = (S1.2.1 : Int) - (S.2.1 : Int))) (iaeX M (¬ (0 ≤ nn.toInt ∧ nn.toInt ≤ 60))) := by
  have hs2 := hS.2.2.2.1
  have h0 := hS.2.2.1
  refine g_enterX rfl rfl rfl (Nat.le_of_ble_eq_true rfl) ?_
  show G Γ _ _ _ _ 0 [some (.ref 0), some (.int nn), none, none] [] M
  refine g_iload_n1 dX5_days_0 rfl ?_
  refine g_if_ltI (t := 10) dX5_days_1 (by decide) rfl (fun c1 => ?_) (fun c1 => ?_)
  · -- 1 t
    refine g_throw thI dX5_days_10 dX5_days_13 dX5_days_14 dX5_days_17 rfl rfl rfl ⟨by show 7 ≤ _ + 8; omega, by show 100 ≤ 150 + 50 * _; omega, Nat.le_refl _, Nat.le_refl _⟩ (Nat.le_of_ble_eq_true rfl) ?_
    exact ⟨rfl, rfl, by omega⟩
  · -- 1 f
    refine g_iload_n1 dX5_days_4 rfl ?_
    refine g_bipushI dX5_days_5 rfl rfl (fun w5 h5 => ?_)
    refine g_icmp_leI (t := 18) dX5_days_7 (by decide) rfl (fun c7 => ?_) (fun c7 => ?_)
    · -- 7 t
      refine g_aload_n0 dX5_days_18 rfl ?_
      refine g_getr dX5_days_19 rfl fX5_22 hA.1 rfl ?_
      refine g_callVi0 dX5_days_22 rfl vX5_128 (hg_book hA).1 rfl (c_bkLength (hg_book hA)) (g_rmX (by omega)) (Nat.le_of_ble_eq_true rfl) (fun z22 M22 e22 => ?_)
      obtain ⟨hMM, e22⟩ := e22
      subst M22
      have e22i : z22.toInt = (S.2.1 : Int) := by rw [e22]; exact h0
      refine g_istore_n2 dX5_days_25 rfl rfl ?_
      refine g_iconstI dX5_days_26 rfl rfl (fun w26 h26 => ?_)
      refine g_istore_n3 dX5_days_27 rfl rfl ?_
      refine g_toX ?_
      exact lx_days hA hI hs2 hdy (M0 := M) (by omega) e22i (fun M2 S2 z a b c d => ⟨_, rfl, a, by omega, S2, b, c, d⟩) _ _ M S rfl (by omega) (by omega) ⟨fun _ _ _ _ => rfl, rfl⟩ hS (by rw [h26]; rfl)
    · -- 7 f
      refine g_throw thI dX5_days_10 dX5_days_13 dX5_days_14 dX5_days_17 rfl rfl rfl ⟨by show 7 ≤ _ + 8; omega, by show 100 ≤ 150 + 50 * _; omega, Nat.le_refl _, Nat.le_refl _⟩ (Nat.le_of_ble_eq_true rfl) ?_
      exact ⟨rfl, rfl, by omega⟩
