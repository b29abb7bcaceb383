set_option maxHeartbeats 1200000 in
theorem l_goS {Γ : gW} {M0 : gM} {T0 T : gTw} {r0 : Nat → Int32} {σ0 : gGt} (hR : g_Ref Γ) (hI : INV T) (hX : TX T0 T) (hC0 : CR T M0) (hW0 : WR T M0) (hA0 : RW T (M0.1 442)) (hRX0 : RX T0 r0 (M0.1 442)) {bI : Int32} (hb : 0 ≤ bI.toInt ∧ bI.toInt ≤ (σ0.1 : Int)) {p : Int32} (hp : 0 ≤ p.toInt ∧ p.toInt < T 0 0) {who : Int32} {Q : Option Value → gM → Prop} (hk : ∀ M : gM, frG M0 M → GTR T0 r0 (gfold (gSet T p.toInt.toNat bI.toInt) 4096 σ0) M → Q none M) : ∀ (n9 : Nat) (u : Int32) (v5 : Option Value) (M : gM), ((2 : Int) ^ (T 0 1).toNat - u.toInt).toNat = n9 → 0 ≤ u.toInt → u.toInt ≤ (2 : Int) ^ (T 0 1).toNat → frG M0 M → GTR T0 r0 (gfold (gSet T p.toInt.toNat bI.toInt) u.toInt.toNat σ0) M → G Γ μX6_goOn (g_R 4) (0, 0) (g_Z Γ Q) 69 [some (.ref 300), some (.int p), some (.int who), some (.int bI), some (.int u), v5] [] M := by
  intro n9
  induction n9 using Nat.strongRecOn with
  | ind n9 ih =>
    intro u v5 M h9 hu0 hu1 hfr hG
    have hO := hI.1
    have e442 : M.1 442 = M0.1 442 := hfr.1 442 (by decide) (by decide) (by decide) (by decide) (by decide) (by decide)
    have hC := CR.g hC0 hfr
    have hW := WR.g hW0 hfr
    have hA : RW T (M.1 442) := by rw [e442]; exact hA0
    have hRX : RX T0 r0 (M.1 442) := by rw [e442]; exact hRX0
    obtain ⟨o_pe, o_th, o_la, o_wi, o_da, o_we, o_p, o_i⟩ := id hO
    obtain ⟨r_0, r_1, r_2, r_3, r_p, r_i⟩ := id hC
    have ep : ((2 ^ (T 0 1).toNat : Nat) : Int) = (2 : Int) ^ (T 0 1).toNat := by simp
    have hp12 : 2 ^ (T 0 1).toNat ≤ 2 ^ 12 := Nat.pow_le_pow_right (by decide) (by omega)
    have hp12e : (2 : Nat) ^ 12 = 4096 := rfl
    clear o_p o_i r_p r_i o_la o_da o_we
    obtain ⟨-, a_o, a_t, -⟩ := hA.1 p.toInt.toNat (by omega)
    have hpos := two_pos (T 0 1).toNat
    have hle := gfold_le (f := (gSet T p.toInt.toNat bI.toInt)) (fun u σ => gSet_le) u.toInt.toNat σ0
    refine g_iload4 dX6_goOn_69 rfl ?_
    refine g_iconstI dX6_goOn_71 rfl rfl (fun w71 h71 => ?_)
    refine g_aload_n0 dX6_goOn_72 rfl ?_
    refine g_getr dX6_goOn_73 rfl fX6_25 hR.1 rfl ?_
    refine g_iconstI dX6_goOn_76 rfl rfl (fun w76 h76 => ?_)
    refine g_ialdI dX6_goOn_77 rfl (rf_told hR) ⟨by omega, by omega⟩ ?_
    have et77 : w76.toInt.toNat = 1 := by omega
    rw [et77]
    clear et77
    refine g_ishlB dX6_goOn_78 rfl ⟨by omega, by omega⟩ (fun w78 h78 => ?_)
    have hpw : 2 ^ (M.1 402 1).toInt.toNat < 4294967296 := by rw [r_1]; omega
    rw [bn_lit (n := 1) h71, Nat.shiftLeft_eq, Nat.one_mul, Nat.mod_eq_of_lt hpw, r_1] at h78
    have e78 : w78.toInt = (2 : Int) ^ (T 0 1).toNat := by rw [i_bn (by omega), h78, ep]
    refine g_icmp_geI (t := 168) dX6_goOn_79 (by decide) rfl (fun c79 => ?_) (fun c79 => ?_)
    · -- 79 t
      refine g_vret dX6_goOn_168 rfl ?_
      refine hk _ hfr ?_
      have h2 : hasT T p.toInt.toNat < 2 ^ (T 0 1).toNat := by rw [← RW.has hA (p := p.toInt.toNat) (by omega)]; exact gat_lt _ _
      have e4096 : (2 : Nat) ^ (T 0 1).toNat ≤ 4096 := Nat.pow_le_pow_right (by decide : 2 > 0) (show (T 0 1).toNat ≤ 12 by omega)
      rw [gfold_tail (i := u.toInt.toNat) 4096 (by omega) (fun v a b => ?_)]
      · exact hG
      · rw [gSet, if_neg (fun hf => ?_)]
        have h3 := sub_le hf.2.1
        omega
    · -- 79 f
      refine g_aload_n0 dX6_goOn_82 rfl ?_
      refine g_aload_n0 dX6_goOn_83 rfl ?_
      refine g_getr dX6_goOn_84 rfl fX6_100 hR.1 rfl ?_
      refine g_iload_n1 dX6_goOn_87 rfl ?_
      refine g_iload4 dX6_goOn_88 rfl ?_
      refine g_callVi3 dX6_goOn_90 rfl vX6_301 hR.1 rfl (r_fits hR hO hC hW (rf_row hR) hA hp ⟨hu0, by omega⟩) (g_rm (by omega)) (Nat.le_of_ble_eq_true rfl) (fun z90 M90 e90 => ?_)
      obtain ⟨rfl, e90, f90⟩ := e90
      refine g_if_neI (t := 99) dX6_goOn_93 (by decide) rfl (fun c93 => ?_) (fun c93 => ?_)
      · -- 93 t
        have hyf := f90.mp (by omega)
        clear f90 e90
        refine g_iconstI dX6_goOn_99 rfl rfl (fun w99 h99 => ?_)
        refine g_istore5 dX6_goOn_100 rfl rfl ?_
        refine l_goO (σ0 := gfold (gSet T p.toInt.toNat bI.toInt) u.toInt.toNat σ0) hR hI hX hC hW hA hRX ⟨hb.1, by omega⟩ hp hu0 hyf (by decide : 2 < 4) (fun M2 k hfr2 hG2 => ?_) _ _ _ rfl (by omega) (by omega) frG.rf (by rw [h99, show (0 : Int).toNat = 0 from rfl]; exact hG)
        refine g_iincI4 dX6_goOn_162 rfl rfl rfl ⟨by omega, by omega⟩ (fun w162 h162 => ?_)
        refine g_goto (t := 69) dX6_goOn_165 (by decide) ?_
        have e1 : w162.toInt.toNat = u.toInt.toNat + 1 := by omega
        refine ih _ (by omega) _ _ _ rfl (by omega) (by omega) (frG.tr hfr hfr2) ?_
        rw [e1]
        show GTR T0 r0 (gSet T p.toInt.toNat bI.toInt u.toInt.toNat (gfold _ u.toInt.toNat σ0)) _
        rw [gSet, if_pos hyf]; exact hG2
      · -- 93 f
        have hnf : ¬ fitT T p.toInt.toNat u.toInt.toNat := fun h => by have := f90.mpr h; omega
        clear f90 e90
        refine g_goto (t := 162) dX6_goOn_96 (by decide) ?_
        refine g_iincI4 dX6_goOn_162 rfl rfl rfl ⟨by omega, by omega⟩ (fun w162 h162 => ?_)
        refine g_goto (t := 69) dX6_goOn_165 (by decide) ?_
        have e1 : w162.toInt.toNat = u.toInt.toNat + 1 := by omega
        refine ih _ (by omega) _ _ _ rfl (by omega) (by omega) hfr ?_
        rw [e1]
        show GTR T0 r0 (gSet T p.toInt.toNat bI.toInt u.toInt.toNat (gfold _ u.toInt.toNat σ0)) _
        rw [gSet, if_neg hnf]; exact hG
theorem gPer_none {T : gTw} {who p : Nat} {b : Int} {σ : gGt} (h : ¬ mayT T p) : gPer T who b p σ = σ := by
  rw [gPer]; split
  · rw [gfold_tail (i := 0) 4096 (by decide) (fun v a b => by rw [gSet, if_neg (fun hf => h hf.1)])]; rfl
  · rw [if_pos (chF_eq (Or.inl ⟨rfl, fun u hu => h hu.1.1⟩))]
set_option maxHeartbeats 1200000 in
theorem r_goOn {Γ : gW} {M : gM} {T0 T : gTw} {r0 : Nat → Int32} {σ : gGt} (hR : g_Ref Γ) (hI : INV T) (hX : TX T0 T) (hC : CR T M) (hW : WR T M) (hA : RW T (M.1 442)) (hRX : RX T0 r0 (M.1 442)) {bI : Int32} (hb : 0 ≤ bI.toInt ∧ bI.toInt ≤ (σ.1 : Int)) {p : Int32} (hp : 0 ≤ p.toInt ∧ p.toInt < T 0 0) {who : Int32} (hG : GTR T0 r0 σ M) (hdy : (M.1 300 12).toInt = T 0 4) (hwho : 0 ≤ who.toInt)  : Ct Γ yX6_goOn μX6_goOn 4 [.ref 300, .int p, .int who, .int bI] M (g_qv (fun M1 => GTR T0 r0 (gPer T who.toInt.toNat bI.toInt p.toInt.toNat σ) M1 ∧ frG M M1)) := by
  have hO := hI.1
  obtain ⟨o_pe, o_th, o_la, o_wi, o_da, o_we, o_p, o_i⟩ := id hO
  obtain ⟨r_0, r_1, r_2, r_3, r_p, r_i⟩ := id hC
  have ep : ((2 ^ (T 0 1).toNat : Nat) : Int) = (2 : Int) ^ (T 0 1).toNat := by simp
  have hp12 : 2 ^ (T 0 1).toNat ≤ 2 ^ 12 := Nat.pow_le_pow_right (by decide) (by omega)
  have hp12e : (2 : Nat) ^ 12 = 4096 := rfl
  clear o_p o_i r_p r_i o_la o_da o_we
  have hpos := two_pos (T 0 1).toNat
  obtain ⟨-, a_o, a_t, -⟩ := hA.1 p.toInt.toNat (by omega)
  refine g_enter rfl rfl rfl (Nat.le_of_ble_eq_true rfl) ?_
  show G Γ _ _ _ _ 0 [some (.ref 300), some (.int p), some (.int who), some (.int bI), none, none] [] M
  refine g_aload_n0 dX6_goOn_0 rfl ?_
  refine g_getr dX6_goOn_1 rfl fX6_100 hR.1 rfl ?_
  refine g_bipushI dX6_goOn_4 rfl rfl (fun w4 h4 => ?_)
  refine g_iload_n1 dX6_goOn_6 rfl ?_
  refine g_iaddI dX6_goOn_7 rfl ⟨by omega, by omega⟩ (fun w7 h7 => ?_)
  refine g_ialdI dX6_goOn_8 rfl (rf_row hR) ⟨by omega, by omega⟩ ?_
  rw [show w7.toInt.toNat = 18 + p.toInt.toNat by omega]
  refine g_if_neI (t := 13) dX6_goOn_9 (by decide) rfl (fun c9 => ?_) (fun c9 => ?_)
  · -- 9 t
    refine g_iload_n1 dX6_goOn_13 rfl ?_
    refine g_iload_n2 dX6_goOn_14 rfl ?_
    refine g_icmp_eqI (t := 66) dX6_goOn_15 (by decide) rfl (fun c15 => ?_) (fun c15 => ?_)
    · -- 15 t
      have hpw : p.toInt.toNat = who.toInt.toNat := by omega
      refine g_iconstI dX6_goOn_66 rfl rfl (fun w66 h66 => ?_)
      refine g_istore4 dX6_goOn_67 rfl rfl ?_
      exact l_goS hR hI hX hC hW hA hRX hb hp (fun M2 hfr2 hG2 => ⟨rfl, by rw [gPer, if_pos hpw]; exact hG2, hfr2⟩) _ _ _ _ rfl (by omega) (by omega) frG.rf (by rw [h66, show (0 : Int).toNat = 0 from rfl]; exact hG)
    · -- 15 f
      have hpw : ¬ p.toInt.toNat = who.toInt.toNat := by omega
      refine g_aload_n0 dX6_goOn_18 rfl ?_
      refine g_aload_n0 dX6_goOn_19 rfl ?_
      refine g_getr dX6_goOn_20 rfl fX6_100 hR.1 rfl ?_
      refine g_iload_n1 dX6_goOn_23 rfl ?_
      refine g_aload_n0 dX6_goOn_24 rfl ?_
      refine g_geti dX6_goOn_25 rfl fX6_253 hR.1 rfl ?_
      refine g_callVi3 dX6_goOn_28 rfl vX6_311 hR.1 rfl (r_choiceOf hR hO hC hW (rf_row hR) hA hp hdy) (g_rm (by omega)) (Nat.le_of_ble_eq_true rfl) (fun z28 M28 e28 => ?_)
      obtain ⟨rfl, e28⟩ := e28
      refine g_istore4 dX6_goOn_31 rfl rfl ?_
      refine g_iload4 dX6_goOn_33 rfl ?_
      refine g_iconstI dX6_goOn_35 rfl rfl (fun w35 h35 => ?_)
      refine g_icmp_eqI (t := 65) dX6_goOn_36 (by decide) rfl (fun c36 => ?_) (fun c36 => ?_)
      · -- 36 t
        have hz : chF T p.toInt.toNat = -1 := by rw [chF_eq e28]; omega
        refine g_vret dX6_goOn_65 rfl ?_
        first
          | (refine ⟨rfl, ?_, e62.2⟩
             have hg := e62.1
             rw [gPer, if_neg hpw, hz, if_neg (by omega), choT, show ((m : Int)).toNat = z28.toInt.toNat by omega, show (takerT T p.toInt.toNat).toNat = z58.toInt.toNat by omega]
             exact hg)
          | (refine ⟨rfl, ?_, frG.rf⟩
             rw [gPer, if_neg hpw, if_pos hz]; exact hG)
      · -- 36 f
        have hm0 : z28.toInt = -1 ∨ 0 ≤ z28.toInt := by rcases e28 with ⟨h, -⟩ | ⟨n, h, -⟩ <;> omega
        obtain ⟨m, hm⟩ : ∃ m : Nat, z28.toInt = (m : Int) := ⟨z28.toInt.toNat, by omega⟩
        have hm2 := e28
        rw [hm] at hm2
        obtain ⟨hcan, htk, htk2⟩ := chosenT_can hO (by omega) hm2 hI.2.2
        have hz := chF_eq hm2
        have em : z28.toInt.toNat = m := by omega
        have hfit : fitT T p.toInt.toNat z28.toInt.toNat := by
          rw [em]
          rcases hm2 with ⟨h, -⟩ | ⟨n, h, h2, -⟩
          · omega
          · rw [show m = n by omega]; exact h2.1
        clear e28 hm2
        refine g_aload_n0 dX6_goOn_39 rfl ?_
        refine g_iload_n1 dX6_goOn_40 rfl ?_
        refine g_iload4 dX6_goOn_41 rfl ?_
        refine g_aload_n0 dX6_goOn_43 rfl ?_
        refine g_aload_n0 dX6_goOn_44 rfl ?_
        refine g_getr dX6_goOn_45 rfl fX6_100 hR.1 rfl ?_
        refine g_iload_n1 dX6_goOn_48 rfl ?_
        refine g_aload_n0 dX6_goOn_49 rfl ?_
        refine g_getr dX6_goOn_50 rfl fX6_100 hR.1 rfl ?_
        refine g_bipushI dX6_goOn_53 rfl rfl (fun w53 h53 => ?_)
        refine g_iload_n1 dX6_goOn_55 rfl ?_
        refine g_iaddI dX6_goOn_56 rfl ⟨by omega, by omega⟩ (fun w56 h56 => ?_)
        refine g_ialdI dX6_goOn_57 rfl (rf_row hR) ⟨by omega, by omega⟩ ?_
        rw [show w56.toInt.toNat = 24 + p.toInt.toNat by omega]
        refine g_callVi3 dX6_goOn_58 rfl vX6_315 hR.1 rfl (r_whomOf hR hO hC (rf_row hR) hA hp a_t) (g_rm (by omega)) (Nat.le_of_ble_eq_true rfl) (fun z58 M58 e58 => ?_)
        obtain ⟨rfl, e58⟩ := e58
        rw [← em, show (takerT T p.toInt.toNat).toNat = z58.toInt.toNat by omega] at hcan
        refine g_iload_n3 dX6_goOn_61 rfl ?_
        refine g_callVv4 dX6_goOn_62 rfl vX6_365 hR.1 rfl (r_giveOn hR hG hI hX hC hW hA hRX hb hp (by omega) hfit (by omega) hcan) (g_rm (by omega)) (Nat.le_of_ble_eq_true rfl) (fun M62 e62 => ?_)
        refine g_vret dX6_goOn_65 rfl ?_
        first
          | (refine ⟨rfl, ?_, e62.2⟩
             have hg := e62.1
             rw [gPer, if_neg hpw, hz, if_neg (by omega), choT, show ((m : Int)).toNat = z28.toInt.toNat by omega, show (takerT T p.toInt.toNat).toNat = z58.toInt.toNat by omega]
             exact hg)
          | (refine ⟨rfl, ?_, frG.rf⟩
             rw [gPer, if_neg hpw, if_pos hz]; exact hG)
  · -- 9 f
    refine g_vret dX6_goOn_12 rfl ?_
    refine ⟨rfl, ?_, frG.rf⟩
    rw [gPer_none (fun h => by have := h.1; omega)]; exact hG
