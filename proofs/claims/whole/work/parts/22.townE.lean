theorem ch_sel {M : gM} {t p : Nat} {z : Int} {o : Nat} (hm : may M t p) (hk : ¬ (M.1 (t + 1) p).toInt = 1 ∧ ¬ (M.1 (t + 1) p).toInt = 2) (hw : ¬ waitsP M t p) (ho : ∀ u, sub u o ↔ sub u (has M t p) ∧ ((M.1 (t + 1) p).toInt = 3 → u.testBit (M.1 (t + 2) p).toInt.toNat = false)) (h : NX M t o (-1) (lgt M t p - (M.1 (t + 3) p).toInt) (hvy M t p) z) : chosen M t p z := by
  refine ch_congr (fun u => ?_) (fun u _ => ?_) (nx_ch h)
  · constructor
    · rintro ⟨h1, h2⟩
      have := (ho u).mp h1
      exact ⟨⟨hm, this.1, h2⟩, this.2, hw⟩
    · rintro ⟨⟨-, h1, h2⟩, h3, -⟩
      exact ⟨(ho u).mpr ⟨h1, h3⟩, h2⟩
  · rw [rankS, if_neg hk.1, if_neg hk.2]
theorem ch_no {M : gM} {t p : Nat} (h : ¬ may M t p ∨ waitsP M t p) : chosen M t p (-1) := Or.inl ⟨rfl, fun u hu => by
  rcases h with h | h
  · exact h hu.1.1
  · exact hu.2.2 h⟩
set_option maxHeartbeats 4000000 in
theorem c_chosenSet {Γ : gW} {t : Nat} {M : gM} (hT : g_Town Γ t) (hB : TB M t) {p : Int32} (hp : 0 ≤ p.toInt ∧ p.toInt < 6) : Ct Γ yX3_chosenSet μX3_chosenSet 3 [.ref t, .int p] M (g_qi (fun z M1 => M1 = M ∧ chosen M t p.toInt.toNat z.toInt)) := by
  have hb0 := hB.1
  obtain ⟨h_pe, h_th, h_la, h_wi, h_da, h_we⟩ := id hb0
  have hb1 := hB.2.1 p.toInt.toNat (by omega)
  obtain ⟨h_k, h_g, h_s, h_o, h_ot, h_h⟩ := id hb1
  have ehas : ((has M t p.toInt.toNat : Nat) : Int) = (M.1 (t + 6) p.toInt.toNat).toInt := i_bn2 (by omega)
  refine g_enter rfl rfl rfl (Nat.le_of_ble_eq_true rfl) ?_
  show G Γ _ _ _ _ 0 [some (.ref t), some (.int p)] [] M
  refine g_aload_n0 dX3_chosenSet_0 rfl ?_
  refine g_iload_n1 dX3_chosenSet_1 rfl ?_
  refine g_callVi1 dX3_chosenSet_2 rfl vX3_96 hT.1 rfl (c_mayAnswer hT hB hp) (g_rm (by omega)) (Nat.le_of_ble_eq_true rfl) (fun z2 M2 e2 => ?_)
  obtain ⟨rfl, e2, f2⟩ := e2
  refine g_if_neI (t := 10) dX3_chosenSet_5 (by decide) rfl (fun c5 => ?_) (fun c5 => ?_)
  · -- 5 t
    refine g_aload_n0 dX3_chosenSet_10 rfl ?_
    refine g_getr dX3_chosenSet_11 rfl fX3_30 hT.1 rfl ?_
    refine g_iload_n1 dX3_chosenSet_14 rfl ?_
    refine g_ialdI dX3_chosenSet_15 rfl (tw_kind hT) ⟨by omega, by omega⟩ ?_
    have hm := f2.mp (by omega)
    rcases (show (M2.1 (t + 1) p.toInt.toNat).toInt = 1 ∨ (M2.1 (t + 1) p.toInt.toNat).toInt = 2 ∨ (M2.1 (t + 1) p.toInt.toNat).toInt = 3 ∨ (M2.1 (t + 1) p.toInt.toNat).toInt = 4 ∨ ((M2.1 (t + 1) p.toInt.toNat).toInt < 1 ∨ 4 < (M2.1 (t + 1) p.toInt.toNat).toInt) by omega) with c16 | c16 | c16 | c16 | c16
    · -- 16 case 1
      refine g_tableIn (off := 32) (t := 48) dX3_chosenSet_16 (by omega) (by omega) (by rw [c16]; rfl) (by decide) ?_
      refine g_aload_n0 dX3_chosenSet_48 rfl ?_
      refine g_iload_n1 dX3_chosenSet_49 rfl ?_
      refine g_callVi1 dX3_chosenSet_50 rfl vX3_110 hT.1 rfl (c_cheapest hT hB hp) (g_rm (by omega)) (Nat.le_of_ble_eq_true rfl) (fun z50 M50 e50 => ?_)
      obtain ⟨rfl, e50⟩ := e50
      refine g_iret dX3_chosenSet_53 rfl ?_
      refine ⟨_, rfl, rfl, ch_congr (fun u => ?_) (fun u _ => ?_) e50⟩
      · refine ⟨fun h => ⟨⟨hm, h.1, h.2⟩, fun h3 => by omega, fun hw => by have := hw.1; omega⟩, fun h => h.1.2⟩
      · simp only [rankS, costS]
        by_cases h1 : (M50.1 (t + 1) p.toInt.toNat).toInt = 1
        · simp only [if_pos h1]
        · have h2 : (M50.1 (t + 1) p.toInt.toNat).toInt = 2 := by omega
          simp only [if_neg h1, if_pos h2]
    · -- 16 case 2
      refine g_tableIn (off := 32) (t := 48) dX3_chosenSet_16 (by omega) (by omega) (by rw [c16]; rfl) (by decide) ?_
      refine g_aload_n0 dX3_chosenSet_48 rfl ?_
      refine g_iload_n1 dX3_chosenSet_49 rfl ?_
      refine g_callVi1 dX3_chosenSet_50 rfl vX3_110 hT.1 rfl (c_cheapest hT hB hp) (g_rm (by omega)) (Nat.le_of_ble_eq_true rfl) (fun z50 M50 e50 => ?_)
      obtain ⟨rfl, e50⟩ := e50
      refine g_iret dX3_chosenSet_53 rfl ?_
      refine ⟨_, rfl, rfl, ch_congr (fun u => ?_) (fun u _ => ?_) e50⟩
      · refine ⟨fun h => ⟨⟨hm, h.1, h.2⟩, fun h3 => by omega, fun hw => by have := hw.1; omega⟩, fun h => h.1.2⟩
      · simp only [rankS, costS]
        by_cases h1 : (M50.1 (t + 1) p.toInt.toNat).toInt = 1
        · simp only [if_pos h1]
        · have h2 : (M50.1 (t + 1) p.toInt.toNat).toInt = 2 := by omega
          simp only [if_neg h1, if_pos h2]
    · -- 16 case 3
      refine g_tableIn (off := 38) (t := 54) dX3_chosenSet_16 (by omega) (by omega) (by rw [c16]; rfl) (by decide) ?_
      refine g_aload_n0 dX3_chosenSet_54 rfl ?_
      refine g_aload_n0 dX3_chosenSet_55 rfl ?_
      refine g_getr dX3_chosenSet_56 rfl fX3_46 hT.1 rfl ?_
      refine g_iload_n1 dX3_chosenSet_59 rfl ?_
      refine g_ialdI dX3_chosenSet_60 rfl (tw_has hT) ⟨by omega, by omega⟩ ?_
      refine g_iconstI dX3_chosenSet_61 rfl rfl (fun w61 h61 => ?_)
      refine g_aload_n0 dX3_chosenSet_62 rfl ?_
      refine g_getr dX3_chosenSet_63 rfl fX3_34 hT.1 rfl ?_
      refine g_iload_n1 dX3_chosenSet_66 rfl ?_
      refine g_ialdI dX3_chosenSet_67 rfl (tw_goal hT) ⟨by omega, by omega⟩ ?_
      refine g_ishlB dX3_chosenSet_68 rfl ⟨by omega, by omega⟩ (fun w68 h68 => ?_)
      have hg : (M2.1 (t + 2) p.toInt.toNat).toInt.toNat < 12 := by omega
      have hpw : 2 ^ (M2.1 (t + 2) p.toInt.toNat).toInt.toNat < 4294967296 := Nat.lt_of_lt_of_le (Nat.pow_lt_pow_right (by decide) hg) (by decide)
      rw [bn_lit (n := 1) h61, Nat.shiftLeft_eq, Nat.one_mul, Nat.mod_eq_of_lt hpw] at h68
      refine g_iconstI dX3_chosenSet_69 rfl rfl (fun w69 h69 => ?_)
      refine g_ixorB dX3_chosenSet_70 rfl  (fun w70 h70 => ?_)
      refine g_iandB dX3_chosenSet_71 rfl  (fun w71 h71 => ?_)
      rw [h70, bn_neg1 h69, and_not (bn_lt _), h68] at h71
      have hle := nd_le (has M2 t p.toInt.toNat) (2 ^ (M2.1 (t + 2) p.toInt.toNat).toInt.toNat)
      have h71b : bn w71 ≤ has M2 t p.toInt.toNat := by rw [h71]; exact hle
      have e71 : w71.toInt = bn w71 := i_bn (by omega)
      refine g_iload_n1 dX3_chosenSet_72 rfl ?_
      refine g_callVi2 dX3_chosenSet_73 rfl vX3_113 hT.1 rfl (c_leastFitOf hT hB ⟨by omega, by omega⟩ hp) (g_rm (by omega)) (Nat.le_of_ble_eq_true rfl) (fun z73 M73 e73 => ?_)
      obtain ⟨rfl, e73⟩ := e73
      rw [h71] at e73
      refine g_iret dX3_chosenSet_76 rfl ?_
      refine ⟨_, rfl, rfl, ch_sel hm ⟨by omega, by omega⟩ (fun hw => by have := hw.1; omega) (fun u => ?_) e73⟩
      rw [show nd (bn (M73.1 (t + 6) p.toInt.toNat)) _ = nd (has M73 t p.toInt.toNat) _ from rfl, sub_nd]
      exact ⟨fun h => ⟨h.1, fun _ => h.2⟩, fun h => ⟨h.1, h.2 (by omega)⟩⟩
    · -- 16 case 4
      refine g_tableIn (off := 61) (t := 77) dX3_chosenSet_16 (by omega) (by omega) (by rw [c16]; rfl) (by decide) ?_
      refine g_aload_n0 dX3_chosenSet_77 rfl ?_
      refine g_iload_n1 dX3_chosenSet_78 rfl ?_
      refine g_callVi1 dX3_chosenSet_79 rfl vX3_116 hT.1 rfl (c_waits hT hB hp) (g_rm (by omega)) (Nat.le_of_ble_eq_true rfl) (fun z79 M79 e79 => ?_)
      obtain ⟨rfl, e79, f79⟩ := e79
      refine g_if_eqI (t := 89) dX3_chosenSet_82 (by decide) rfl (fun c82 => ?_) (fun c82 => ?_)
      · -- 82 t
        refine g_aload_n0 dX3_chosenSet_89 rfl ?_
        refine g_aload_n0 dX3_chosenSet_90 rfl ?_
        refine g_getr dX3_chosenSet_91 rfl fX3_46 hT.1 rfl ?_
        refine g_iload_n1 dX3_chosenSet_94 rfl ?_
        refine g_ialdI dX3_chosenSet_95 rfl (tw_has hT) ⟨by omega, by omega⟩ ?_
        refine g_iload_n1 dX3_chosenSet_96 rfl ?_
        refine g_callVi2 dX3_chosenSet_97 rfl vX3_113 hT.1 rfl (c_leastFitOf hT hB ⟨by omega, by omega⟩ hp) (g_rm (by omega)) (Nat.le_of_ble_eq_true rfl) (fun z97 M97 e97 => ?_)
        obtain ⟨rfl, e97⟩ := e97
        refine g_iret dX3_chosenSet_100 rfl ?_
        refine ⟨_, rfl, rfl, ?_⟩
        first
          | (rw [h85]; exact ch_no (Or.inr (f79.mp (by omega))))
          | exact ch_sel hm ⟨by omega, by omega⟩ (fun hw => by have := f79.mpr hw; omega) (fun u => ⟨fun h => ⟨h, fun h3 => by omega⟩, fun h => h.1⟩) e97
      · -- 82 f
        refine g_iconstI dX3_chosenSet_85 rfl rfl (fun w85 h85 => ?_)
        refine g_goto (t := 100) dX3_chosenSet_86 (by decide) ?_
        refine g_iret dX3_chosenSet_100 rfl ?_
        refine ⟨_, rfl, rfl, ?_⟩
        first
          | (rw [h85]; exact ch_no (Or.inr (f79.mp (by omega))))
          | exact ch_sel hm ⟨by omega, by omega⟩ (fun hw => by have := f79.mpr hw; omega) (fun u => ⟨fun h => ⟨h, fun h3 => by omega⟩, fun h => h.1⟩) e97
    · -- 16 default
      refine g_tableOut (t := 101) dX3_chosenSet_16 (by omega) (by decide) ?_
      refine g_aload_n0 dX3_chosenSet_101 rfl ?_
      refine g_aload_n0 dX3_chosenSet_102 rfl ?_
      refine g_getr dX3_chosenSet_103 rfl fX3_46 hT.1 rfl ?_
      refine g_iload_n1 dX3_chosenSet_106 rfl ?_
      refine g_ialdI dX3_chosenSet_107 rfl (tw_has hT) ⟨by omega, by omega⟩ ?_
      refine g_iload_n1 dX3_chosenSet_108 rfl ?_
      refine g_callVi2 dX3_chosenSet_109 rfl vX3_113 hT.1 rfl (c_leastFitOf hT hB ⟨by omega, by omega⟩ hp) (g_rm (by omega)) (Nat.le_of_ble_eq_true rfl) (fun z109 M109 e109 => ?_)
      obtain ⟨rfl, e109⟩ := e109
      refine g_iret dX3_chosenSet_112 rfl ?_
      exact ⟨_, rfl, rfl, ch_sel hm ⟨by omega, by omega⟩ (fun hw => by have := hw.1; omega) (fun u => ⟨fun h => ⟨h, fun h3 => by omega⟩, fun h => h.1⟩) e109⟩
  · -- 5 f
    refine g_iconstI dX3_chosenSet_8 rfl rfl (fun w8 h8 => ?_)
    refine g_iret dX3_chosenSet_9 rfl ?_
    refine ⟨_, rfl, rfl, ?_⟩
    rw [h8]
    exact ch_no (Or.inl fun h => by have := f2.mpr h; omega)
/-- some set without thing i, and a part of weight w beside it, answers -/
def partS (M : gM) (t p i : Nat) (w : Int) : Prop := ∃ u : Nat, sub u (has M t p) ∧ u.testBit i = false ∧ fitW M t (lgt M t p - (M.1 (t + 3) p).toInt - w) (hvy M t p - w) u
set_option maxHeartbeats 4000000 in
theorem c_fitsWithPart {Γ : gW} {t : Nat} {M : gM} (hT : g_Town Γ t) (hB : TB M t) {p : Int32} (hp : 0 ≤ p.toInt ∧ p.toInt < 6) {i w : Int32} (hi : 0 ≤ i.toInt ∧ i.toInt < 12) (hw : -1000 ≤ w.toInt ∧ w.toInt ≤ 1000) : Ct Γ yX3_fitsWithPart μX3_fitsWithPart 2 [.ref t, .int p, .int i, .int w] M (g_qi (fun z M1 => M1 = M ∧ (z.toInt = 0 ∨ z.toInt = 1) ∧ (z.toInt = 1 ↔ partS M t p.toInt.toNat i.toInt.toNat w.toInt))) := by
  have hb0 := hB.1
  obtain ⟨h_pe, h_th, h_la, h_wi, h_da, h_we⟩ := id hb0
  have hb1 := hB.2.1 p.toInt.toNat (by omega)
  obtain ⟨h_k, h_g, h_s, h_o, h_ot, h_h⟩ := id hb1
  have hlr := lgt_rng (p := p.toInt.toNat) hB (by omega)
  have hhr := hvy_rng (p := p.toInt.toNat) hB (by omega)
  have ehas : ((has M t p.toInt.toNat : Nat) : Int) = (M.1 (t + 6) p.toInt.toNat).toInt := i_bn2 (by omega)
  refine g_enter rfl rfl rfl (Nat.le_of_ble_eq_true rfl) ?_
  show G Γ _ _ _ _ 0 [some (.ref t), some (.int p), some (.int i), some (.int w), none, none] [] M
  refine g_aload_n0 dX3_fitsWithPart_0 rfl ?_
  refine g_getr dX3_fitsWithPart_1 rfl fX3_46 hT.1 rfl ?_
  refine g_iload_n1 dX3_fitsWithPart_4 rfl ?_
  refine g_ialdI dX3_fitsWithPart_5 rfl (tw_has hT) ⟨by omega, by omega⟩ ?_
  refine g_iconstI dX3_fitsWithPart_6 rfl rfl (fun w6 h6 => ?_)
  refine g_iload_n2 dX3_fitsWithPart_7 rfl ?_
  refine g_ishlB dX3_fitsWithPart_8 rfl ⟨by omega, by omega⟩ (fun w8 h8 => ?_)
  have hpw : 2 ^ i.toInt.toNat < 4294967296 := Nat.lt_of_lt_of_le (Nat.pow_lt_pow_right (by decide) (by omega : i.toInt.toNat < 12)) (by decide)
  rw [bn_lit (n := 1) h6, Nat.shiftLeft_eq, Nat.one_mul, Nat.mod_eq_of_lt hpw] at h8
  refine g_iconstI dX3_fitsWithPart_9 rfl rfl (fun w9 h9 => ?_)
  refine g_ixorB dX3_fitsWithPart_10 rfl  (fun w10 h10 => ?_)
  refine g_iandB dX3_fitsWithPart_11 rfl  (fun w11 h11 => ?_)
  rw [h10, bn_neg1 h9, and_not (bn_lt _), h8] at h11
  have hle := nd_le (has M t p.toInt.toNat) (2 ^ i.toInt.toNat)
  have h11b : bn w11 ≤ has M t p.toInt.toNat := by rw [h11]; exact hle
  have e11 : w11.toInt = bn w11 := i_bn (by omega)
  refine g_istore4 dX3_fitsWithPart_12 rfl rfl ?_
  refine g_aload_n0 dX3_fitsWithPart_14 rfl ?_
  refine g_iload_n1 dX3_fitsWithPart_15 rfl ?_
  refine g_callVi1 dX3_fitsWithPart_16 rfl vX3_84 hT.1 rfl (c_lightest hT hB hp) (g_rm (by omega)) (Nat.le_of_ble_eq_true rfl) (fun z16 M16 e16 => ?_)
  obtain ⟨rfl, e16⟩ := e16
  refine g_aload_n0 dX3_fitsWithPart_19 rfl ?_
  refine g_getr dX3_fitsWithPart_20 rfl fX3_37 hT.1 rfl ?_
  refine g_iload_n1 dX3_fitsWithPart_23 rfl ?_
  refine g_ialdI dX3_fitsWithPart_24 rfl (tw_sand hT) ⟨by omega, by omega⟩ ?_
  refine g_isubI dX3_fitsWithPart_25 rfl ⟨by omega, by omega⟩ (fun w25 h25 => ?_)
  refine g_iload_n3 dX3_fitsWithPart_26 rfl ?_
  refine g_isubI dX3_fitsWithPart_27 rfl ⟨by omega, by omega⟩ (fun w27 h27 => ?_)
  refine g_istore5 dX3_fitsWithPart_28 rfl rfl ?_
  refine g_aload_n0 dX3_fitsWithPart_30 rfl ?_
  refine g_iload4 dX3_fitsWithPart_31 rfl ?_
  refine g_iconstI dX3_fitsWithPart_33 rfl rfl (fun w33 h33 => ?_)
  refine g_iload5 dX3_fitsWithPart_34 rfl ?_
  refine g_aload_n0 dX3_fitsWithPart_36 rfl ?_
  refine g_iload_n1 dX3_fitsWithPart_37 rfl ?_
  refine g_callVi1 dX3_fitsWithPart_38 rfl vX3_87 hT.1 rfl (c_heaviest hT hB hp) (g_rm (by omega)) (Nat.le_of_ble_eq_true rfl) (fun z38 M38 e38 => ?_)
  obtain ⟨rfl, e38⟩ := e38
  refine g_iload_n3 dX3_fitsWithPart_41 rfl ?_
  refine g_isubI dX3_fitsWithPart_42 rfl ⟨by omega, by omega⟩ (fun w42 h42 => ?_)
  refine g_callVi4 dX3_fitsWithPart_43 rfl vX3_100 hT.1 rfl (c_nextSet hT hB ⟨by omega, by omega⟩ (Or.inl h33)) (g_rm (by omega)) (Nat.le_of_ble_eq_true rfl) (fun z43 M43 e43 => ?_)
  obtain ⟨rfl, e43⟩ := e43
  rw [h11, h27, h25, e16, h42, e38, h33] at e43
  have hiff : (¬ z43.toInt = -1) ↔ partS M43 t p.toInt.toNat i.toInt.toNat w.toInt := by
    constructor
    · intro h
      rcases e43 with ⟨h1, -⟩ | ⟨n, -, h1, -, h3, -⟩
      · exact absurd h1 h
      · have := sub_nd.mp h1
        exact ⟨n, this.1, this.2, h3⟩
    · rintro ⟨u, h1, h2, h3⟩ h
      rcases e43 with ⟨-, h4⟩ | ⟨n, h4, -⟩
      · exact h4 u (sub_nd.mpr ⟨h1, h2⟩) (by omega) h3
      · omega
  refine g_iconstI dX3_fitsWithPart_46 rfl rfl (fun w46 h46 => ?_)
  refine g_icmp_eqI (t := 54) dX3_fitsWithPart_47 (by decide) rfl (fun c47 => ?_) (fun c47 => ?_)
  · -- 47 t
    refine g_iconstI dX3_fitsWithPart_54 rfl rfl (fun w54 h54 => ?_)
    refine g_zretI dX3_fitsWithPart_55 rfl (by omega) ?_
    refine ⟨_, rfl, rfl, by omega, ?_⟩
    rw [← hiff]; omega
  · -- 47 f
    refine g_iconstI dX3_fitsWithPart_50 rfl rfl (fun w50 h50 => ?_)
    refine g_goto (t := 55) dX3_fitsWithPart_51 (by decide) ?_
    refine g_zretI dX3_fitsWithPart_55 rfl (by omega) ?_
    refine ⟨_, rfl, rfl, by omega, ?_⟩
    rw [← hiff]; omega
set_option maxHeartbeats 4000000 in
theorem c_cutHelps {Γ : gW} {t : Nat} {M : gM} (hT : g_Town Γ t) (hB : TB M t) {p : Int32} (hp : 0 ≤ p.toInt ∧ p.toInt < 6) {i w : Int32} (hi : 0 ≤ i.toInt ∧ i.toInt < 12) (hw : 0 ≤ w.toInt ∧ w.toInt ≤ 100) : Ct Γ yX3_cutHelps μX3_cutHelps 3 [.ref t, .int p, .int i, .int w] M (g_qi (fun z M1 => M1 = M ∧ (z.toInt = 0 ∨ z.toInt = 1) ∧ (z.toInt = 1 ↔ partS M t p.toInt.toNat i.toInt.toNat w.toInt ∨ partS M t p.toInt.toNat i.toInt.toNat ((M.1 (t + 7) i.toInt.toNat).toInt - w.toInt)))) := by
  have hb0 := hB.1
  obtain ⟨h_pe, h_th, h_la, h_wi, h_da, h_we⟩ := id hb0
  have hwi := (hB.2.2.1 i.toInt.toNat (by omega)).1
  refine g_enter rfl rfl rfl (Nat.le_of_ble_eq_true rfl) ?_
  show G Γ _ _ _ _ 0 [some (.ref t), some (.int p), some (.int i), some (.int w)] [] M
  refine g_aload_n0 dX3_cutHelps_0 rfl ?_
  refine g_iload_n1 dX3_cutHelps_1 rfl ?_
  refine g_iload_n2 dX3_cutHelps_2 rfl ?_
  refine g_iload_n3 dX3_cutHelps_3 rfl ?_
  refine g_callVi3 dX3_cutHelps_4 rfl vX3_146 hT.1 rfl (c_fitsWithPart hT hB hp hi ⟨by omega, by omega⟩) (g_rm (by omega)) (Nat.le_of_ble_eq_true rfl) (fun z4 M4 e4 => ?_)
  obtain ⟨rfl, e4, f4⟩ := e4
  refine g_if_neI (t := 27) dX3_cutHelps_7 (by decide) rfl (fun c7 => ?_) (fun c7 => ?_)
  · -- 7 t
    refine g_iconstI dX3_cutHelps_27 rfl rfl (fun w27 h27 => ?_)
    refine g_goto (t := 32) dX3_cutHelps_28 (by decide) ?_
    refine g_zretI dX3_cutHelps_32 rfl (by omega) ?_
    refine ⟨_, rfl, rfl, by omega, ?_⟩
    first
      | (rw [← f4, ← f21]; omega)
      | (rw [← f4]; omega)
  · -- 7 f
    refine g_aload_n0 dX3_cutHelps_10 rfl ?_
    refine g_iload_n1 dX3_cutHelps_11 rfl ?_
    refine g_iload_n2 dX3_cutHelps_12 rfl ?_
    refine g_aload_n0 dX3_cutHelps_13 rfl ?_
    refine g_getr dX3_cutHelps_14 rfl fX3_49 hT.1 rfl ?_
    refine g_iload_n2 dX3_cutHelps_17 rfl ?_
    refine g_ialdI dX3_cutHelps_18 rfl (tw_weight hT) ⟨by omega, by omega⟩ ?_
    refine g_iload_n3 dX3_cutHelps_19 rfl ?_
    refine g_isubI dX3_cutHelps_20 rfl ⟨by omega, by omega⟩ (fun w20 h20 => ?_)
    refine g_callVi3 dX3_cutHelps_21 rfl vX3_146 hT.1 rfl (c_fitsWithPart hT hB hp hi ⟨by omega, by omega⟩) (g_rm (by omega)) (Nat.le_of_ble_eq_true rfl) (fun z21 M21 e21 => ?_)
    obtain ⟨rfl, e21, f21⟩ := e21
    rw [h20] at f21
    refine g_if_eqI (t := 31) dX3_cutHelps_24 (by decide) rfl (fun c24 => ?_) (fun c24 => ?_)
    · -- 24 t
      refine g_iconstI dX3_cutHelps_31 rfl rfl (fun w31 h31 => ?_)
      refine g_zretI dX3_cutHelps_32 rfl (by omega) ?_
      refine ⟨_, rfl, rfl, by omega, ?_⟩
      first
        | (rw [← f4, ← f21]; omega)
        | (rw [← f4]; omega)
    · -- 24 f
      refine g_iconstI dX3_cutHelps_27 rfl rfl (fun w27 h27 => ?_)
      refine g_goto (t := 32) dX3_cutHelps_28 (by decide) ?_
      refine g_zretI dX3_cutHelps_32 rfl (by omega) ?_
      refine ⟨_, rfl, rfl, by omega, ?_⟩
      first
        | (rw [← f4, ← f21]; omega)
        | (rw [← f4]; omega)
