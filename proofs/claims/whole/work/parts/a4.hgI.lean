theorem v_gbc {M M1 : gM} {t p : Nat} {z : Int} {T : gTw} (hB : TB M t) (hT : tv M t = T) (hI : INV T) (hp : (p : Int) < T 0 0) (h : (z = 0 ∧ M1 = M ∧ chosen M t p (-1)) ∨ (z = 1 ∧ ∃ n : Nat, chosen M t p (n : Int) ∧ gaveM M M1 t p n)) : ((z = 0 ∧ chosenT T p (-1) ∧ tv M1 t = T) ∨ (z = 1 ∧ ∃ n : Nat, chosenT T p (n : Int) ∧ tv M1 t = choT T p n)) ∧ (∀ j, j ≠ t + 3 → j ≠ t + 4 → j ≠ t + 5 → j ≠ t + 6 → M1.1 j = M.1 j) ∧ M1.2 = M.2 := by
  have hO := hI.1
  have hb0 := hO.1
  have hp6 : p < 6 := by omega
  rcases h with ⟨h1, rfl, h3⟩ | ⟨h1, n, h3, s9, sd9, v9, k9, q1, q2, q3, q4, hM⟩
  · exact ⟨Or.inl ⟨h1, by rw [← hT]; exact (v_chosen hB hp6).mp h3, hT⟩, fun _ _ _ _ _ => rfl, rfl⟩
  · have hc2 : chosenT T p (n : Int) := by rw [← hT]; exact (v_chosen hB hp6).mp h3
    obtain ⟨hcan, htk0, htk1⟩ := chosenT_can hO hp hc2 hI.2.2
    have hbp := hO.2.2.2.2.2.2.1 p hp6
    rw [v_sand hp6, hT] at q2 q3
    rw [v_taker hB hp6, hT] at q4 hM
    have hsub := sub_le hcan.2.2.2.1
    have hh6 : hasT T p ≤ 4095 := by unfold hasT; omega
    have hbs : bn s9 = n := bn_lit q1
    have e3 : (M.1 (t + 3) p).toInt = T 3 p := by rw [← hT]; exact (tvp (f := 3) (by decide) hp6).symm
    have hsr : 0 ≤ sandT T p n ∧ sandT T p n ≤ T 3 p := ⟨hcan.2.2.2.2.1, hcan.2.2.2.2.2⟩
    refine ⟨Or.inr ⟨h1, n, hc2, ?_⟩, fun j a b c d => by rw [hM]; exact gm_o ⟨a, b, c, d⟩, by rw [hM]; exact gm_2⟩
    rw [hM, v_gift hB hp6 (by omega) hcan.2.2.1 (by omega) (by omega) (by rw [hbs, q3, q2]), hT, hbs, q2]; rfl
theorem v_ED {M M1 : gM} {t : Nat} (hB : TB M t) (h : ED M M1 t) : tv M1 t = dayT (tv M t) := by
  obtain ⟨h1, h2, h3, h4, h5, -⟩ := h
  funext f i
  by_cases q0 : f = 0 ∧ i = 4
  · obtain ⟨rfl, rfl⟩ := q0
    rw [dayT, upT_eq, tv0 (by decide), tv0 (by decide)]; exact h4
  · rw [dayT, upT_ne q0, dryT]
    by_cases q7 : f = 7
    · subst q7
      rw [if_pos rfl]
      by_cases hi : i < 12
      · rw [tvw (Or.inl rfl) hi, h5 i hi, v_dry hB hi]
      · have z : ∀ N : gM, tv N t 7 i = 0 := fun N => by rw [tv, if_neg (fun q => hi q.2)]
        rw [dryV, z M1, z M, if_neg (by omega)]
    · rw [if_neg q7]
      unfold tv
      by_cases hc : f ≤ 8 ∧ i < lenT f
      · rw [if_pos hc, if_pos hc]
        by_cases f0 : f = 0
        · subst f0
          rw [Nat.add_zero, h3 i (fun e => q0 ⟨rfl, e⟩)]
        · rw [h1 (t + f) (by omega) (by omega) (by omega) (by omega)]
      · rw [if_neg hc, if_neg hc]
def frSp (M M' : gM) : Prop := (∀ j, ¬ (120 ≤ j ∧ j ≤ 130) → M'.1 j = M.1 j) ∧ M'.2 = M.2
theorem frSp.tr {M M1 M2 : gM} (h : frSp M M1) (h2 : frSp M1 M2) : frSp M M2 := ⟨fun j a => by rw [h2.1 j a, h.1 j a], by rw [h2.2, h.2]⟩
theorem frSp.rf {M : gM} : frSp M M := ⟨fun _ _ => rfl, rfl⟩
theorem quiet_v {M : gM} {t : Nat} {T : gTw} (hB : TB M t) (hT : tv M t = T) : quiet T ↔ (¬ anyP (fun p => 0 < (M.1 (t + 4) p).toInt ∧ waitsP M t p) (M.1 t 0).toInt.toNat) ∧ ¬ anyP (driesP M t) (M.1 t 1).toInt.toNat := by
  have hO : TOK T := by rw [← hT]; exact TOK.of hB
  have hb0 := hO.1
  have hb1 := hO.2.1
  have hb5 := hO.2.2.2.2.2.1
  have t00 : (M.1 t 0).toInt = T 0 0 := by rw [← hT]; exact (tv0 (by decide)).symm
  have t01 : (M.1 t 1).toInt = T 0 1 := by rw [← hT]; exact (tv0 (by decide)).symm
  have t05 : bn (M.1 t 5) = (T 0 5).toNat := by
    have h5 : (M.1 t 5).toInt = T 0 5 := by rw [← hT]; exact (tv0 (by decide)).symm
    rw [← h5]; exact bn_toNat (by omega)
  rw [t00, t01]
  unfold quiet anyP
  constructor
  · rintro ⟨a, b⟩
    refine ⟨fun ⟨p, hp, h1, h2⟩ => a p (by omega) ⟨?_, ?_⟩, fun ⟨i, hi, h1, h2⟩ => b i (by omega) ⟨?_, ?_⟩⟩
    · rw [← hT, tvp (by decide) (by omega)]; exact h1
    · rw [← hT]; exact (v_waits (by omega)).mp h2
    · rw [← t05]; exact h1
    · rw [← hT, tvw (Or.inl rfl) (by omega)]; exact h2
  · rintro ⟨a, b⟩
    refine ⟨fun p hp h => a ⟨p, by omega, ?_, ?_⟩, fun i hi h => b ⟨i, by omega, ?_, ?_⟩⟩
    · have := h.1; rw [← hT, tvp (by decide) (by omega)] at this; exact this
    · have := h.2; rw [← hT] at this; exact (v_waits (by omega)).mpr this
    · rw [t05]; exact h.1
    · have := h.2; rw [← hT, tvw (Or.inl rfl) (by omega)] at this; exact this
set_option maxHeartbeats 1200000 in
theorem lx_stillIn {Γ : gW} {gt : Option Nat} (hA : g_HG Γ gt) {M0 : gM} {T1 : gTw} (hI : INV T1) {i : Int32} {Q : Option Value → gM → Prop} (hk : ∀ (M : gM) (T : gTw) (g p : Int32), frSp M0 M → tv M 120 = T → TBt M 120 → (g.toInt = 0 ∨ g.toInt = 1) → psP T1 (T1 0 0).toNat T (g.toInt = 1) → G Γ μX5_still (g_R 5) (0, 0) (g_Z Γ Q) 51 [some (.ref 0), some (.int i), some (.int g), some (.int p)] [] M) : ∀ (n9 : Nat) (g p : Int32) (M : gM) (T : gTw), 6 - p.toInt.toNat = n9 → 0 ≤ p.toInt → p.toInt ≤ T1 0 0 → frSp M0 M → tv M 120 = T → TBt M 120 → (g.toInt = 0 ∨ g.toInt = 1) → psP T1 p.toInt.toNat T (g.toInt = 1) → G Γ μX5_still (g_R 5) (0, 0) (g_Z Γ Q) 23 [some (.ref 0), some (.int i), some (.int g), some (.int p)] [] M := by
  intro n9
  induction n9 using Nat.strongRecOn with
  | ind n9 ih =>
    intro g p M T hn hp0 hp1 hF hT hTt hg hps
    have hb1 := hI.1.1
    obtain ⟨hIT, hsame⟩ := psP_inv hI _ _ _ (by omega) hps
    have s00 := hsame 0 0 (by decide) (by decide) (by decide) (by decide)
    have hO := hIT.1
    have hb0 := hO.1
    have hB : TB M 120 := TB.of (by rw [hT]; exact hO) hTt
    have t00 : (M.1 120 0).toInt = T 0 0 := by rw [← hT]; exact (tv0 (by decide)).symm
    refine g_iload_n3 dX5_still_23 rfl ?_
    refine g_aload_n0 dX5_still_24 rfl ?_
    refine g_getr dX5_still_25 rfl fX5_16 hA.1 rfl ?_
    refine g_geti dX5_still_28 rfl fX5_113 (hg_spare hA).1 rfl ?_
    refine g_icmp_geI (t := 51) dX5_still_31 (by decide) rfl (fun c31 => ?_) (fun c31 => ?_)
    · -- 31 t
      exact hk _ _ _ _ hF hT hTt hg (by rw [show (T1 0 0).toNat = p.toInt.toNat by omega]; exact hps)
    · -- 31 f
      refine g_iload_n2 dX5_still_34 rfl ?_
      refine g_aload_n0 dX5_still_35 rfl ?_
      refine g_getr dX5_still_36 rfl fX5_16 hA.1 rfl ?_
      refine g_iload_n3 dX5_still_39 rfl ?_
      refine g_callVi1 dX5_still_40 rfl vX5_285 (hg_spare hA).1 rfl (c_giveByChoice (hg_spare hA) hB (by omega)) (g_rm (by omega)) (Nat.le_of_ble_eq_true rfl) (fun z40 M40 e40 => ?_)
      obtain ⟨hst, hfr1, hfr2⟩ := v_gbc hB hT hIT (by omega) e40
      clear e40
      refine g_iorB dX5_still_43 rfl  (fun w43 h43 => ?_)
      have hF2 : frSp M0 M40 := frSp.tr hF ⟨fun j a => hfr1 j (by omega) (by omega) (by omega) (by omega), hfr2⟩
      have hTt2 : TBt M40 120 := TBt.far hTt (hfr1 _ (by decide) (by decide) (by decide) (by decide)) (hfr1 _ (by decide) (by decide) (by decide) (by decide)) (hfr1 _ (by decide) (by decide) (by decide) (by decide))
      have hbg : bn g = g.toInt.toNat := bn_toNat (by omega)
      clear hfr1 hfr2
      refine g_istore_n2 dX5_still_44 rfl rfl ?_
      refine g_iincI3 dX5_still_45 rfl rfl rfl ⟨by omega, by omega⟩ (fun w45 h45 => ?_)
      refine g_goto (t := 23) dX5_still_48 (by decide) ?_
      have e1 : w45.toInt.toNat = p.toInt.toNat + 1 := by omega
      rcases hst with ⟨z0, hc, hT2⟩ | ⟨z1, n, hc, hT2⟩
      · have hbz : bn z40 = 0 := bn_lit z0
        rw [hbg, hbz, Nat.or_zero] at h43
        have hw : w43.toInt = g.toInt := by rw [i_bn (by rw [h43]; omega), h43]; omega
        refine ih _ (show 6 - w45.toInt.toNat < n9 by omega) _ _ _ T rfl (by omega) (by omega) hF2 hT2 hTt2 (by omega) ?_
        rw [e1]
        exact ⟨T, _, hps, Or.inl ⟨hc, rfl, by rw [hw]⟩⟩
      · have hbz : bn z40 = 1 := bn_lit z1
        rw [hbg, hbz] at h43
        have hw : w43.toInt = 1 := by
          rcases hg with q | q
          · rw [q] at h43; rw [i_bn (by rw [h43]; decide), h43]; rfl
          · rw [q] at h43; rw [i_bn (by rw [h43]; decide), h43]; rfl
        refine ih _ (show 6 - w45.toInt.toNat < n9 by omega) _ _ _ (choT T p.toInt.toNat n) rfl (by omega) (by omega) hF2 hT2 hTt2 (Or.inr hw) ?_
        rw [e1]
        exact ⟨T, _, hps, Or.inr ⟨n, hc, rfl, by rw [hw]; simp⟩⟩
set_option maxHeartbeats 1200000 in
theorem lx_still {Γ : gW} {gt : Option Nat} (hA : g_HG Γ gt) {M0 : gM} {T0 : gTw} (hI : INV T0) (hday : T0 0 4 + 101 ≤ 100000) {Q : Option Value → gM → Prop} (hQ : ∀ (M : gM) (z : Int32), frSp M0 M → stillZ T0 z.toInt → Q (some (.int z)) M) : ∀ (n9 : Nat) (i : Int32) (M : gM) (T : gTw) (y2 y3 : Option Value), 100 - i.toInt.toNat = n9 → 0 ≤ i.toInt → i.toInt ≤ 100 → frSp M0 M → tv M 120 = T → TBt M 120 → stP T0 i.toInt.toNat T → G Γ μX5_still (g_R 5) (0, 0) (g_Z Γ Q) 13 [some (.ref 0), some (.int i), y2, y3] [] M := by
  intro n9
  induction n9 using Nat.strongRecOn with
  | ind n9 ih =>
    intro i M T y2 y3 hn hi0 hi1 hF hT hTt hst
    obtain ⟨hIT, d1, -, -⟩ := stP_inv hI hday _ _ (by omega) hst
    have hO := hIT.1
    have hb0 := hO.1
    have hB : TB M 120 := TB.of (by rw [hT]; exact hO) hTt
    have t00 : (M.1 120 0).toInt = T 0 0 := by rw [← hT]; exact (tv0 (by decide)).symm
    refine g_iload_n1 dX5_still_13 rfl ?_
    refine g_bipushI dX5_still_14 rfl rfl (fun w14 h14 => ?_)
    refine g_icmp_geI (t := 96) dX5_still_16 (by decide) rfl (fun c16 => ?_) (fun c16 => ?_)
    · -- 16 t
      refine g_iconstI dX5_still_96 rfl rfl (fun w96 h96 => ?_)
      refine g_iret dX5_still_97 rfl ?_
      exact hQ _ _ hF (Or.inr ⟨T, by rw [show (100 : Nat) = i.toInt.toNat by omega]; exact hst, h96⟩)
    · -- 16 f
      refine g_iconstI dX5_still_19 rfl rfl (fun w19 h19 => ?_)
      refine g_istore_n2 dX5_still_20 rfl rfl ?_
      refine g_iconstI dX5_still_21 rfl rfl (fun w21 h21 => ?_)
      refine g_istore_n3 dX5_still_22 rfl rfl ?_
      refine lx_stillIn hA hIT (M0 := M0) (fun M2 T2 g2 p2 hF2 hT2 hTt2 hg2 hps2 => ?_) _ _ _ M T rfl (by omega) (by omega) hF hT hTt (by omega) (by rw [h21]; exact ⟨rfl, by rw [h19]; decide⟩)
      obtain ⟨hI2, hsame⟩ := psP_inv hIT _ _ _ (by omega) hps2
      have s04 := hsame 0 4 (by decide) (by decide) (by decide) (by decide)
      have hB2 : TB M2 120 := TB.of (by rw [hT2]; exact hI2.1) hTt2
      have hend : ¬ (¬ g2.toInt = 1 ∧ quiet T2) → G Γ μX5_still (g_R 5) (0, 0) (g_Z Γ Q) 83 [some (.ref 0), some (.int i), some (.int g2), some (.int p2)] [] M2 := by
        intro hnq
        refine g_aload_n0 dX5_still_83 rfl ?_
        refine g_getr dX5_still_84 rfl fX5_16 hA.1 rfl ?_
        refine g_callVv0 dX5_still_87 rfl vX5_291 (hg_spare hA).1 rfl (c_endDay (hg_spare hA) hB2) (g_rm (by omega)) (Nat.le_of_ble_eq_true rfl) (fun M87 e87 => ?_)
        refine g_iincI1 dX5_still_90 rfl rfl rfl ⟨by omega, by omega⟩ (fun w90 h90 => ?_)
        refine g_goto (t := 13) dX5_still_93 (by decide) ?_
        have hv := v_ED hB2 e87
        rw [hT2] at hv
        refine ih _ (show 100 - w90.toInt.toNat < n9 by omega) _ M87 (dayT T2) _ _ rfl (by omega) (by omega) (frSp.tr hF2 ⟨fun j a => e87.1 j (by omega) (by omega) (by omega) (by omega), e87.2.1⟩) hv e87.2.2.2.2.2 ?_
        rw [show w90.toInt.toNat = i.toInt.toNat + 1 by omega]
        exact ⟨T, T2, _, hst, hps2, hnq, rfl⟩
      refine g_iload_n2 dX5_still_51 rfl ?_
      refine g_if_neI (t := 83) dX5_still_52 (by decide) rfl (fun c52 => ?_) (fun c52 => ?_)
      · -- 52 t
        have hnq : ¬ (¬ g2.toInt = 1 ∧ quiet T2) := fun h => h.1 (by omega)
        exact hend hnq
      · -- 52 f
        have hg0 : ¬ g2.toInt = 1 := by omega
        refine g_aload_n0 dX5_still_55 rfl ?_
        refine g_getr dX5_still_56 rfl fX5_16 hA.1 rfl ?_
        refine g_callVi0 dX5_still_59 rfl vX5_294 (hg_spare hA).1 rfl (c_someoneWaits (hg_spare hA) hB2) (g_rm (by omega)) (Nat.le_of_ble_eq_true rfl) (fun z59 M59 e59 => ?_)
        obtain ⟨hMM, e59, f59⟩ := e59
        subst M59
        refine g_if_neI (t := 83) dX5_still_62 (by decide) rfl (fun c62 => ?_) (fun c62 => ?_)
        · -- 62 t
          have hnq : ¬ (¬ g2.toInt = 1 ∧ quiet T2) := fun h => ((quiet_v hB2 hT2).mp h.2).1 (f59.mp (by omega))
          clear f59 e59
          exact hend hnq
        · -- 62 f
          have hw0 : ¬ anyP (fun p => 0 < (M2.1 (120 + 4) p).toInt ∧ waitsP M2 120 p) (M2.1 120 0).toInt.toNat := fun h => by have := f59.mpr h; omega
          clear f59 e59
          refine g_aload_n0 dX5_still_65 rfl ?_
          refine g_getr dX5_still_66 rfl fX5_16 hA.1 rfl ?_
          refine g_callVi0 dX5_still_69 rfl vX5_297 (hg_spare hA).1 rfl (c_somethingDries (hg_spare hA) hB2) (g_rm (by omega)) (Nat.le_of_ble_eq_true rfl) (fun z69 M69 e69 => ?_)
          obtain ⟨hMM, e69, f69⟩ := e69
          subst M69
          refine g_if_neI (t := 83) dX5_still_72 (by decide) rfl (fun c72 => ?_) (fun c72 => ?_)
          · -- 72 t
            have hnq : ¬ (¬ g2.toInt = 1 ∧ quiet T2) := fun h => ((quiet_v hB2 hT2).mp h.2).2 (f69.mp (by omega))
            clear f69 e69
            exact hend hnq
          · -- 72 f
            have hd0 : ¬ anyP (driesP M2 120) (M2.1 120 1).toInt.toNat := fun h => by have := f69.mpr h; omega
            clear f69 e69
            refine g_aload_n0 dX5_still_75 rfl ?_
            refine g_getr dX5_still_76 rfl fX5_16 hA.1 rfl ?_
            refine g_geti dX5_still_79 rfl fX5_125 (hg_spare hA).1 rfl ?_
            refine g_iret dX5_still_82 rfl ?_
            refine hQ _ _ hF2 (Or.inl ⟨i.toInt.toNat, T, T2, _, by omega, hst, hps2, hg0, (quiet_v hB2 hT2).mpr ⟨hw0, hd0⟩, ?_⟩)
            rw [← s04, ← hT2]; exact (tv0 (by decide)).symm
set_option maxHeartbeats 1200000 in
theorem x_still {Γ : gW} {gt : Option Nat} {M : gM} (hA : g_HG Γ gt) {T : gTw} (hI : INV T) (hday : T 0 4 + 101 ≤ 100000) (hT : tv M 100 = T) (hTt : TBt M 100) : Ct Γ yX5_still μX5_still 5 [.ref 0] M (g_qi (fun z M1 => frSp M M1 ∧ stillZ T z.toInt)) := by
  have hB : TB M 100 := TB.of (by rw [hT]; exact hI.1) hTt
  refine g_enter rfl rfl rfl (Nat.le_of_ble_eq_true rfl) ?_
  show G Γ _ _ _ _ 0 [some (.ref 0), none, none, none] [] M
  refine g_aload_n0 dX5_still_0 rfl ?_
  refine g_getr dX5_still_1 rfl fX5_16 hA.1 rfl ?_
  refine g_aload_n0 dX5_still_4 rfl ?_
  refine g_getr dX5_still_5 rfl fX5_10 hA.1 rfl ?_
  refine g_callVv1 dX5_still_8 rfl vX5_106 (hg_spare hA).1 rfl (c_copyFrom (hg_spare hA) (hg_town hA) (Or.inr (by decide))) (g_rm (by omega)) (Nat.le_of_ble_eq_true rfl) (fun M8 e8 => ?_)
  refine g_iconstI dX5_still_11 rfl rfl (fun w11 h11 => ?_)
  refine g_istore_n1 dX5_still_12 rfl rfl ?_
  exact lx_still hA hI hday (M0 := M) (fun M2 z a b => ⟨_, rfl, a, b⟩) _ _ M8 T _ _ rfl (by omega) (by omega) ⟨fun j a => e8.1 j (by omega), e8.2.1⟩ (by rw [v_copy e8]; exact hT) (TB.copy e8 hB).2.2.2 (by rw [h11]; rfl)
