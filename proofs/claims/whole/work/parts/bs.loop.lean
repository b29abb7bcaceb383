theorem ofN {L : Nat} (h : L ≤ 3072) : (Int32.ofNat L).toInt = (L : Int) := by
  have e : Int32.ofNat L = Int32.ofInt (L : Int) := (Int32.ofInt_eq_ofNat).symm
  rw [e]; exact ofI (by omega)
theorem law_loop {b L : Nat} {xs : Nat → Int32} (hL3 : L ≤ 3072) : ∀ (k : Nat) (Γ : gW) (gt : Option Nat) (kn : Nat × Nat) (M : gM) (A : gAb) (it : Nat) (i : Int32) (y5 y6 : Option Value), 600 - it = k → it ≤ 512 → i.toInt = 6 * (it : Int) → yi y5 → yi y6 → LW b Γ gt M → RC A M → RR A M → AOK A it → kn.1 ≤ 100 + 15 * it → kn.2 ≤ 51387 + 8264 * it → G Γ μL_law room_1 kn (g_ZL b L xs) 23 (lvL i y5 y6) [] M := by
  intro k
  induction k using Nat.strongRecOn with
  | _ k ih =>
    intro Γ gt kn M A it i y5 y6 hk hit hi h5 h6 hL hC hR hn hk1 hk2
    refine g_iload4 dL_law_23 rfl ?_
    refine g_aload_n0 dL_law_25 rfl ?_
    refine g_slenL (b := b) (L := L) (xs := xs) zL_s hL.2.2.2.2.1 dL_law_26 rfl ?_
    have eL := ofN hL3
    refine g_bipushI dL_law_27 rfl (by decide) (fun w27 h27 => ?_)
    refine g_isubI dL_law_29 rfl (by omega) (fun w29 h29 => ?_)
    refine g_icmp_gtI (t := 1508) dL_law_30 rfl rfl (fun hgt => ?_) (fun hle => ?_)
    · refine g_iconst (v := 1) dL_law_1508 rfl rfl ?_
      exact g_retL ⟨by omega, by omega⟩
    · have hLn : 6 * it + 6 ≤ L := by omega
      have hit2 : it + 1 ≤ 512 := by omega
      refine g_aload_n0 dL_law_33 rfl ?_
      refine g_iload4 dL_law_34 rfl ?_
      refine g_sldL (b := b) (L := L) (xs := xs) zL_s hL.2.2.2.2.1 dL_law_36 rfl (by omega) ?_
      refine g_bipushI dL_law_37 rfl (by decide) (fun w37 h37 => ?_)
      refine g_iandB dL_law_39 rfl (fun w39 h39 => ?_)
      have hb : bn w39 ≤ 31 := by
        rw [h39, bn_lit (n := 31) h37]; exact Nat.and_le_right
      have hx : w39.toInt = (bn w39 : Int) := i_bn (by omega)
      have kk : KL b L xs kn it i := by
        intro Γ' gt' M' A' kn' y5' y6' g5 g6 gL gC gR gn g1 g2
        refine g_iinc4 dL_law_1502 rfl rfl rfl ?_
        refine g_goto (t := 23) dL_law_1505 rfl ?_
        have e6 : (i + Int32.ofInt 6).toInt = 6 * ((it + 1 : Nat) : Int) := by
          rw [i_add (by rw [ofI (by omega)]; omega), ofI (by omega)]; push_cast; omega
        have a1 : kn'.1 ≤ 100 + 15 * (it + 1) := by omega
        have a2 : kn'.2 ≤ 51387 + 8264 * (it + 1) := Nat.le_trans g2 (Nat.le_trans (Nat.add_le_add_right hk2 8264) (Nat.le_of_eq (by rw [Nat.mul_add, Nat.mul_one, Nat.add_assoc])))
        have a3 : 600 - (it + 1) < k := by omega
        generalize he : it + 1 = it2 at *
        exact ih (600 - it2) a3 Γ' gt' kn' M' A' it2 _ y5' y6' rfl hit2 e6 g5 g6 gL gC gR gn a1 a2
      have hkn : kn.1 ≤ 590000 ∧ kn.2 ≤ 7280000 := ⟨by omega, by omega⟩
      by_cases hout : 24 < w39.toInt
      · refine g_tableOut (t := 1502) dL_law_40 (Or.inr hout) rfl ?_
        exact kk Γ gt M A kn y5 y6 h5 h6 hL hC hR (hn.up (by omega)) (by omega) (by omega)
      · have hc : w39.toInt = 0 ∨ w39.toInt = 1 ∨ w39.toInt = 2 ∨ w39.toInt = 3 ∨ w39.toInt = 4 ∨ w39.toInt = 5 ∨ w39.toInt = 6 ∨ w39.toInt = 7 ∨ w39.toInt = 8 ∨ w39.toInt = 9 ∨ w39.toInt = 10 ∨ w39.toInt = 11 ∨ w39.toInt = 12 ∨ w39.toInt = 13 ∨ w39.toInt = 14 ∨ w39.toInt = 15 ∨ w39.toInt = 16 ∨ w39.toInt = 17 ∨ w39.toInt = 18 ∨ w39.toInt = 19 ∨ w39.toInt = 20 ∨ w39.toInt = 21 ∨ w39.toInt = 22 ∨ w39.toInt = 23 ∨ w39.toInt = 24 := by omega
        rcases hc with hc | hc | hc | hc | hc | hc | hc | hc | hc | hc | hc | hc | hc | hc | hc | hc | hc | hc | hc | hc | hc | hc | hc | hc | hc
        · exact g_tableIn (off := 116) (t := 156) dL_law_40 (by omega) (by omega) (by rw [hc]; rfl) rfl (case_0 hL hC hR hn hi hLn hit h5 h6 hkn kk)
        · exact g_tableIn (off := 189) (t := 229) dL_law_40 (by omega) (by omega) (by rw [hc]; rfl) rfl (case_1 hL hC hR hn hi hLn hit h5 h6 hkn kk)
        · exact g_tableIn (off := 245) (t := 285) dL_law_40 (by omega) (by omega) (by rw [hc]; rfl) rfl (case_2 hL hC hR hn hi hLn hit h5 h6 hkn kk)
        · exact g_tableIn (off := 258) (t := 298) dL_law_40 (by omega) (by omega) (by rw [hc]; rfl) rfl (case_3 hL hC hR hn hi hLn hit h5 h6 hkn kk)
        · exact g_tableIn (off := 314) (t := 354) dL_law_40 (by omega) (by omega) (by rw [hc]; rfl) rfl (case_4 hL hC hR hn hi hLn hit h5 h6 hkn kk)
        · exact g_tableIn (off := 382) (t := 422) dL_law_40 (by omega) (by omega) (by rw [hc]; rfl) rfl (case_5 hL hC hR hn hi hLn hit h5 h6 hkn kk)
        · exact g_tableIn (off := 450) (t := 490) dL_law_40 (by omega) (by omega) (by rw [hc]; rfl) rfl (case_6 hL hC hR hn hi hLn hit h5 h6 hkn kk)
        · exact g_tableIn (off := 511) (t := 551) dL_law_40 (by omega) (by omega) (by rw [hc]; rfl) rfl (case_7 hL hC hR hn hi hLn hit h5 h6 hkn kk)
        · exact g_tableIn (off := 572) (t := 612) dL_law_40 (by omega) (by omega) (by rw [hc]; rfl) rfl (case_8 hL hC hR hn hi hLn hit h5 h6 hkn kk)
        · exact g_tableIn (off := 585) (t := 625) dL_law_40 (by omega) (by omega) (by rw [hc]; rfl) rfl (case_9 hL hC hR hn hi hLn hit h5 h6 hkn kk)
        · exact g_tableIn (off := 653) (t := 693) dL_law_40 (by omega) (by omega) (by rw [hc]; rfl) rfl (case_10 hL hC hR hn hi hLn hit h5 h6 hkn kk)
        · exact g_tableIn (off := 709) (t := 749) dL_law_40 (by omega) (by omega) (by rw [hc]; rfl) rfl (case_11 hL hC hR hn hi hLn hit h5 h6 hkn kk)
        · exact g_tableIn (off := 777) (t := 817) dL_law_40 (by omega) (by omega) (by rw [hc]; rfl) rfl (case_12 hL hC hR hn hi hLn hit h5 h6 hkn kk)
        · exact g_tableIn (off := 833) (t := 873) dL_law_40 (by omega) (by omega) (by rw [hc]; rfl) rfl (case_13 hL hC hR hn hi hLn hit h5 h6 hkn kk)
        · exact g_tableIn (off := 889) (t := 929) dL_law_40 (by omega) (by omega) (by rw [hc]; rfl) rfl (case_14 hL hC hR hn hi hLn hit h5 h6 hkn kk)
        · exact g_tableIn (off := 945) (t := 985) dL_law_40 (by omega) (by omega) (by rw [hc]; rfl) rfl (case_15 hL hC hR hn hi hLn hit h5 h6 hkn kk)
        · exact g_tableIn (off := 1013) (t := 1053) dL_law_40 (by omega) (by omega) (by rw [hc]; rfl) rfl (case_16 hL hC hR hn hi hLn hit h5 h6 hkn kk)
        · exact g_tableIn (off := 1081) (t := 1121) dL_law_40 (by omega) (by omega) (by rw [hc]; rfl) rfl (case_17 hL hC hR hn hi hLn hit h5 h6 hkn kk)
        · exact g_tableIn (off := 1149) (t := 1189) dL_law_40 (by omega) (by omega) (by rw [hc]; rfl) rfl (case_18 hL hC hR hn hi hLn hit h5 h6 hkn kk)
        · exact g_tableIn (off := 1205) (t := 1245) dL_law_40 (by omega) (by omega) (by rw [hc]; rfl) rfl (case_19 hL hC hR hn hi hLn hit h5 h6 hkn kk)
        · exact g_tableIn (off := 1301) (t := 1341) dL_law_40 (by omega) (by omega) (by rw [hc]; rfl) rfl (case_20 hL hC hR hn hi hLn hit h5 h6 hkn kk)
        · exact g_tableIn (off := 1369) (t := 1409) dL_law_40 (by omega) (by omega) (by rw [hc]; rfl) rfl (case_21 hL hC hR hn hi hLn hit h5 h6 hkn kk)
        · exact g_tableIn (off := 1425) (t := 1465) dL_law_40 (by omega) (by omega) (by rw [hc]; rfl) rfl (case_22 hL hC hR hn hi hLn hit h5 h6 hkn kk)
        · exact g_tableIn (off := 1438) (t := 1478) dL_law_40 (by omega) (by omega) (by rw [hc]; rfl) rfl (case_23 hL hC hR hn hi hLn hit h5 h6 hkn kk)
        · exact g_tableIn (off := 1449) (t := 1489) dL_law_40 (by omega) (by omega) (by rw [hc]; rfl) rfl (case_24 hL hC hR hn hi hLn hit h5 h6 hkn kk)
