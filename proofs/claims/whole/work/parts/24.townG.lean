/-- some k below n with P -/
def anyP (P : Nat → Prop) (n : Nat) : Prop := ∃ k, k < n ∧ P k
set_option maxHeartbeats 4000000 in
theorem l_someoneWaits {Γ : gW} {t : Nat} {M : gM} (hT : g_Town Γ t) (hB : TB M t) {Q : Option Value → gM → Prop} (hQ : ∀ z : Int32, (z.toInt = 0 ∨ z.toInt = 1) → (z.toInt = 1 ↔ anyP (fun p => 0 < (M.1 (t + 4) p).toInt ∧ waitsP M t p) (M.1 t 0).toInt.toNat) → Q (some (.int z)) M) : ∀ (n : Nat) (p : Int32), (M.1 t 0).toInt.toNat - p.toInt.toNat = n → 0 ≤ p.toInt → p.toInt ≤ (M.1 t 0).toInt → (∀ k, k < p.toInt.toNat → ¬ (0 < (M.1 (t + 4) k).toInt ∧ waitsP M t k)) → G Γ μX3_someoneWaits (g_R 1) (0, 0) (g_Z Γ Q) 2 [some (.ref t), some (.int p)] [] M := by
  intro n
  induction n using Nat.strongRecOn with
  | ind n ih =>
    intro p hn hp0 hp1 hf
    have hb0 := hB.1
    obtain ⟨h_pe, h_th, h_la, h_wi, h_da, h_we⟩ := id hb0
    refine g_iload_n1 dX3_someoneWaits_2 rfl ?_
    refine g_aload_n0 dX3_someoneWaits_3 rfl ?_
    refine g_geti dX3_someoneWaits_4 rfl fX3_9 hT.1 rfl ?_
    refine g_icmp_geI (t := 35) dX3_someoneWaits_7 (by decide) rfl (fun c7 => ?_) (fun c7 => ?_)
    · -- 7 t
      refine g_iconstI dX3_someoneWaits_35 rfl rfl (fun w35 h35 => ?_)
      refine g_zretI dX3_someoneWaits_36 rfl (by omega) ?_
      refine hQ _ (by omega) ⟨fun h => by omega, fun h => ?_⟩
      obtain ⟨k, hk, hp⟩ := h
      exact absurd hp (hf k (by omega))
    · -- 7 f
      refine g_aload_n0 dX3_someoneWaits_10 rfl ?_
      refine g_getr dX3_someoneWaits_11 rfl fX3_40 hT.1 rfl ?_
      refine g_iload_n1 dX3_someoneWaits_14 rfl ?_
      refine g_ialdI dX3_someoneWaits_15 rfl (tw_owed hT) ⟨by omega, by omega⟩ ?_
      refine g_if_leI (t := 29) dX3_someoneWaits_16 (by decide) rfl (fun c16 => ?_) (fun c16 => ?_)
      · -- 16 t
        refine g_iincI1 dX3_someoneWaits_29 rfl rfl rfl ⟨by omega, by omega⟩ (fun w29 h29 => ?_)
        refine g_goto (t := 2) dX3_someoneWaits_32 (by decide) ?_
        refine ih _ (by omega) _ rfl (by omega) (by omega) (fun k hk => ?_)
        by_cases hkp : k = p.toInt.toNat
        · subst hkp
          rintro ⟨a1, a2⟩
          first
            | omega
            | (have := f21.mpr a2; omega)
        · exact hf k (by omega)
      · -- 16 f
        refine g_aload_n0 dX3_someoneWaits_19 rfl ?_
        refine g_iload_n1 dX3_someoneWaits_20 rfl ?_
        refine g_callVi1 dX3_someoneWaits_21 rfl vX3_116 hT.1 rfl (c_waits hT hB ⟨by omega, by omega⟩) (g_rm (by omega)) (Nat.le_of_ble_eq_true rfl) (fun z21 M21 e21 => ?_)
        obtain ⟨rfl, e21, f21⟩ := e21
        refine g_if_eqI (t := 29) dX3_someoneWaits_24 (by decide) rfl (fun c24 => ?_) (fun c24 => ?_)
        · -- 24 t
          refine g_iincI1 dX3_someoneWaits_29 rfl rfl rfl ⟨by omega, by omega⟩ (fun w29 h29 => ?_)
          refine g_goto (t := 2) dX3_someoneWaits_32 (by decide) ?_
          refine ih _ (by omega) _ rfl (by omega) (by omega) (fun k hk => ?_)
          by_cases hkp : k = p.toInt.toNat
          · subst hkp
            rintro ⟨a1, a2⟩
            first
              | omega
              | (have := f21.mpr a2; omega)
          · exact hf k (by omega)
        · -- 24 f
          refine g_iconstI dX3_someoneWaits_27 rfl rfl (fun w27 h27 => ?_)
          refine g_zretI dX3_someoneWaits_28 rfl (by omega) ?_
          refine hQ _ (by omega) ⟨fun _ => ⟨p.toInt.toNat, by omega, by omega, f21.mp (by omega)⟩, fun _ => by omega⟩
set_option maxHeartbeats 4000000 in
theorem c_someoneWaits {Γ : gW} {t : Nat} {M : gM} (hT : g_Town Γ t) (hB : TB M t)  : Ct Γ yX3_someoneWaits μX3_someoneWaits 1 [.ref t] M (g_qi (fun z M1 => M1 = M ∧ (z.toInt = 0 ∨ z.toInt = 1) ∧ (z.toInt = 1 ↔ anyP (fun p => 0 < (M.1 (t + 4) p).toInt ∧ waitsP M t p) (M.1 t 0).toInt.toNat))) := by
  have hb0 := hB.1
  obtain ⟨h_pe, h_th, h_la, h_wi, h_da, h_we⟩ := id hb0
  refine g_enter rfl rfl rfl (Nat.le_of_ble_eq_true rfl) ?_
  show G Γ _ _ _ _ 0 [some (.ref t), none] [] M
  refine g_iconstI dX3_someoneWaits_0 rfl rfl (fun w0 h0 => ?_)
  refine g_istore_n1 dX3_someoneWaits_1 rfl rfl ?_
  exact l_someoneWaits hT hB (fun z h1 h2 => ⟨_, rfl, rfl, h1, h2⟩) _ _ rfl (by omega) (by omega) (fun k hk => by omega)
def driesP (M : gM) (t i : Nat) : Prop := (bn (M.1 t 5)).testBit i = true ∧ 1 < (M.1 (t + 7) i).toInt
set_option maxHeartbeats 4000000 in
theorem l_somethingDries {Γ : gW} {t : Nat} {M : gM} (hT : g_Town Γ t) (hB : TB M t) {Q : Option Value → gM → Prop} (hQ : ∀ z : Int32, (z.toInt = 0 ∨ z.toInt = 1) → (z.toInt = 1 ↔ anyP (driesP M t) (M.1 t 1).toInt.toNat) → Q (some (.int z)) M) : ∀ (n : Nat) (i : Int32), (M.1 t 1).toInt.toNat - i.toInt.toNat = n → 0 ≤ i.toInt → i.toInt ≤ (M.1 t 1).toInt → (∀ k, k < i.toInt.toNat → ¬ driesP M t k) → G Γ μX3_somethingDries (g_R 0) (0, 0) (g_Z Γ Q) 2 [some (.ref t), some (.int i)] [] M := by
  intro n
  induction n using Nat.strongRecOn with
  | ind n ih =>
    intro i hn hp0 hp1 hf
    have hb0 := hB.1
    obtain ⟨h_pe, h_th, h_la, h_wi, h_da, h_we⟩ := id hb0
    refine g_iload_n1 dX3_somethingDries_2 rfl ?_
    refine g_aload_n0 dX3_somethingDries_3 rfl ?_
    refine g_geti dX3_somethingDries_4 rfl fX3_15 hT.1 rfl ?_
    refine g_icmp_geI (t := 40) dX3_somethingDries_7 (by decide) rfl (fun c7 => ?_) (fun c7 => ?_)
    · -- 7 t
      refine g_iconstI dX3_somethingDries_40 rfl rfl (fun w40 h40 => ?_)
      refine g_zretI dX3_somethingDries_41 rfl (by omega) ?_
      refine hQ _ (by omega) ⟨fun h => by omega, fun h => ?_⟩
      obtain ⟨k, hk, hp⟩ := h
      exact absurd hp (hf k (by omega))
    · -- 7 f
      refine g_aload_n0 dX3_somethingDries_10 rfl ?_
      refine g_geti dX3_somethingDries_11 rfl fX3_27 hT.1 rfl ?_
      refine g_iload_n1 dX3_somethingDries_14 rfl ?_
      refine g_iushrB dX3_somethingDries_15 rfl ⟨by omega, by omega⟩ (fun w15 h15 => ?_)
      refine g_iconstI dX3_somethingDries_16 rfl rfl (fun w16 h16 => ?_)
      refine g_iandB dX3_somethingDries_17 rfl  (fun w17 h17 => ?_)
      have e1 := bn_lit (n := 1) h16
      have hbit := bit_and1 (bn (M.1 t 5)) i.toInt.toNat
      rw [h15, e1, hbit] at h17
      have h17c : w17.toInt = if (bn (M.1 t 5)).testBit i.toInt.toNat then 1 else 0 := by
        rw [i_bn (by rw [h17]; split <;> omega), h17]; split <;> rfl
      refine g_iconstI dX3_somethingDries_18 rfl rfl (fun w18 h18 => ?_)
      refine g_icmp_neI (t := 34) dX3_somethingDries_19 (by decide) rfl (fun c19 => ?_) (fun c19 => ?_)
      · -- 19 t
        refine g_iincI1 dX3_somethingDries_34 rfl rfl rfl ⟨by omega, by omega⟩ (fun w34 h34 => ?_)
        refine g_goto (t := 2) dX3_somethingDries_37 (by decide) ?_
        refine ih _ (by omega) _ rfl (by omega) (by omega) (fun k hk => ?_)
        by_cases hkp : k = i.toInt.toNat
        · subst hkp
          rintro ⟨a1, a2⟩
          rw [if_pos a1] at h17c
          omega
        · exact hf k (by omega)
      · -- 19 f
        refine g_aload_n0 dX3_somethingDries_22 rfl ?_
        refine g_getr dX3_somethingDries_23 rfl fX3_49 hT.1 rfl ?_
        refine g_iload_n1 dX3_somethingDries_26 rfl ?_
        refine g_ialdI dX3_somethingDries_27 rfl (tw_weight hT) ⟨by omega, by omega⟩ ?_
        refine g_iconstI dX3_somethingDries_28 rfl rfl (fun w28 h28 => ?_)
        refine g_icmp_leI (t := 34) dX3_somethingDries_29 (by decide) rfl (fun c29 => ?_) (fun c29 => ?_)
        · -- 29 t
          refine g_iincI1 dX3_somethingDries_34 rfl rfl rfl ⟨by omega, by omega⟩ (fun w34 h34 => ?_)
          refine g_goto (t := 2) dX3_somethingDries_37 (by decide) ?_
          refine ih _ (by omega) _ rfl (by omega) (by omega) (fun k hk => ?_)
          by_cases hkp : k = i.toInt.toNat
          · subst hkp
            rintro ⟨a1, a2⟩
            rw [if_pos a1] at h17c
            omega
          · exact hf k (by omega)
        · -- 29 f
          refine g_iconstI dX3_somethingDries_32 rfl rfl (fun w32 h32 => ?_)
          refine g_zretI dX3_somethingDries_33 rfl (by omega) ?_
          refine hQ _ (by omega) ⟨fun _ => ⟨i.toInt.toNat, by omega, ?_, by omega⟩, fun _ => by omega⟩
          by_cases hb : (bn (M.1 t 5)).testBit i.toInt.toNat = true
          · exact hb
          · rw [if_neg hb] at h17c; omega
set_option maxHeartbeats 4000000 in
theorem c_somethingDries {Γ : gW} {t : Nat} {M : gM} (hT : g_Town Γ t) (hB : TB M t)  : Ct Γ yX3_somethingDries μX3_somethingDries 0 [.ref t] M (g_qi (fun z M1 => M1 = M ∧ (z.toInt = 0 ∨ z.toInt = 1) ∧ (z.toInt = 1 ↔ anyP (driesP M t) (M.1 t 1).toInt.toNat))) := by
  have hb0 := hB.1
  obtain ⟨h_pe, h_th, h_la, h_wi, h_da, h_we⟩ := id hb0
  refine g_enter rfl rfl rfl (Nat.le_of_ble_eq_true rfl) ?_
  show G Γ _ _ _ _ 0 [some (.ref t), none] [] M
  refine g_iconstI dX3_somethingDries_0 rfl rfl (fun w0 h0 => ?_)
  refine g_istore_n1 dX3_somethingDries_1 rfl rfl ?_
  exact l_somethingDries hT hB (fun z h1 h2 => ⟨_, rfl, rfl, h1, h2⟩) _ _ rfl (by omega) (by omega) (fun k hk => by omega)
def troub (M : gM) (t : Nat) (g s n k : Int) : Int := if g < 0 ∨ (M.1 t 0).toInt ≤ g ∨ k < 0 ∨ (M.1 t 0).toInt ≤ k then 1 else if s < 0 ∨ (2 : Int) ^ (M.1 t 1).toInt.toNat ≤ s ∨ n < 0 then 1 else if (M.1 (t + 4) g.toNat).toInt = 0 then 2 else if ¬ nd s.toNat (has M t g.toNat) = 0 ∨ (M.1 (t + 3) g.toNat).toInt < n then 3 else if k = g ∨ (¬ (M.1 (t + 5) g.toNat).toInt = -1 ∧ ¬ (M.1 (t + 5) g.toNat).toInt = k) then 4 else if wt M t s.toNat + n < lgt M t g.toNat then 5 else if hvy M t g.toNat < wt M t s.toNat + n then 6 else 0
theorem shr0 {x k : Nat} : x >>> k = 0 ↔ x < 2 ^ k := by
  rw [Nat.shiftRight_eq_div_pow, Nat.div_eq_zero_iff]
  have := Nat.two_pow_pos k
  omega
set_option maxHeartbeats 4000000 in
theorem c_troubleOf {Γ : gW} {t : Nat} {M : gM} (hT : g_Town Γ t) (hB : TB M t) {g s n k : Int32} : Ct Γ yX3_troubleOf μX3_troubleOf 1 [.ref t, .int g, .int s, .int n, .int k] M (g_qi (fun z M1 => M1 = M ∧ z.toInt = troub M t g.toInt s.toInt n.toInt k.toInt)) := by
  have hb0 := hB.1
  obtain ⟨h_pe, h_th, h_la, h_wi, h_da, h_we⟩ := id hb0
  have hrg := i_rng s
  have ep : ((2 ^ (M.1 t 1).toInt.toNat : Nat) : Int) = (2 : Int) ^ (M.1 t 1).toInt.toNat := by simp
  have hp12 : 2 ^ (M.1 t 1).toInt.toNat ≤ 2 ^ 12 := Nat.pow_le_pow_right (by decide) (by omega)
  have hp12e : (2 : Nat) ^ 12 = 4096 := rfl
  refine g_enter rfl rfl rfl (Nat.le_of_ble_eq_true rfl) ?_
  show G Γ _ _ _ _ 0 [some (.ref t), some (.int g), some (.int s), some (.int n), some (.int k), none] [] M
  refine g_iload_n1 dX3_troubleOf_0 rfl ?_
  refine g_if_ltI (t := 26) dX3_troubleOf_1 (by decide) rfl (fun c1 => ?_) (fun c1 => ?_)
  · -- 1 t
    refine g_iconstI dX3_troubleOf_26 rfl rfl (fun w26 h26 => ?_)
    refine g_iret dX3_troubleOf_27 rfl ?_
    refine ⟨_, rfl, rfl, ?_⟩
    rw [troub, if_pos (by omega), h26]
  · -- 1 f
    refine g_iload_n1 dX3_troubleOf_4 rfl ?_
    refine g_aload_n0 dX3_troubleOf_5 rfl ?_
    refine g_geti dX3_troubleOf_6 rfl fX3_9 hT.1 rfl ?_
    refine g_icmp_geI (t := 26) dX3_troubleOf_9 (by decide) rfl (fun c9 => ?_) (fun c9 => ?_)
    · -- 9 t
      refine g_iconstI dX3_troubleOf_26 rfl rfl (fun w26 h26 => ?_)
      refine g_iret dX3_troubleOf_27 rfl ?_
      refine ⟨_, rfl, rfl, ?_⟩
      rw [troub, if_pos (by omega), h26]
    · -- 9 f
      refine g_iload4 dX3_troubleOf_12 rfl ?_
      refine g_if_ltI (t := 26) dX3_troubleOf_14 (by decide) rfl (fun c14 => ?_) (fun c14 => ?_)
      · -- 14 t
        refine g_iconstI dX3_troubleOf_26 rfl rfl (fun w26 h26 => ?_)
        refine g_iret dX3_troubleOf_27 rfl ?_
        refine ⟨_, rfl, rfl, ?_⟩
        rw [troub, if_pos (by omega), h26]
      · -- 14 f
        refine g_iload4 dX3_troubleOf_17 rfl ?_
        refine g_aload_n0 dX3_troubleOf_19 rfl ?_
        refine g_geti dX3_troubleOf_20 rfl fX3_9 hT.1 rfl ?_
        refine g_icmp_ltI (t := 28) dX3_troubleOf_23 (by decide) rfl (fun c23 => ?_) (fun c23 => ?_)
        · -- 23 t
          refine g_iload_n2 dX3_troubleOf_28 rfl ?_
          refine g_aload_n0 dX3_troubleOf_29 rfl ?_
          refine g_geti dX3_troubleOf_30 rfl fX3_15 hT.1 rfl ?_
          refine g_iushrB dX3_troubleOf_33 rfl ⟨by omega, by omega⟩ (fun w33 h33 => ?_)
          refine g_if_neI (t := 41) dX3_troubleOf_34 (by decide) rfl (fun c34 => ?_) (fun c34 => ?_)
          · -- 34 t
            have hx : s.toInt < 0 ∨ (2 : Int) ^ (M.1 t 1).toInt.toNat ≤ s.toInt := by
              rcases Int.lt_or_le s.toInt 0 with h | h
              · exact Or.inl h
              · right
                have h1 := i_bn2 h
                by_cases hlt : bn s < 2 ^ (M.1 t 1).toInt.toNat
                · exfalso
                  have h2 := shr0.mpr hlt
                  rw [h2] at h33
                  have := i_bn (x := w33) (by omega)
                  omega
                · omega
            refine g_iconstI dX3_troubleOf_41 rfl rfl (fun w41 h41 => ?_)
            refine g_iret dX3_troubleOf_42 rfl ?_
            refine ⟨_, rfl, rfl, ?_⟩
            rw [troub, if_neg (by omega)]
            rw [if_pos (by omega), h41]
          · -- 34 f
            have hx0 : bn s < 2 ^ (M.1 t 1).toInt.toNat := shr0.mp (by rw [← h33]; exact bn_lit (n := 0) (by omega))
            have hs1 : s.toInt = bn s := i_bn (by omega)
            have hs2 : s.toInt.toNat = bn s := by omega
            refine g_iload_n3 dX3_troubleOf_37 rfl ?_
            refine g_if_geI (t := 43) dX3_troubleOf_38 (by decide) rfl (fun c38 => ?_) (fun c38 => ?_)
            · -- 38 t
              refine g_aload_n0 dX3_troubleOf_43 rfl ?_
              have hb1 := hB.2.1 g.toInt.toNat (by omega)
              obtain ⟨h_k, h_g, h_s, h_o, h_ot, h_h⟩ := id hb1
              refine g_getr dX3_troubleOf_44 rfl fX3_40 hT.1 rfl ?_
              refine g_iload_n1 dX3_troubleOf_47 rfl ?_
              refine g_ialdI dX3_troubleOf_48 rfl (tw_owed hT) ⟨by omega, by omega⟩ ?_
              refine g_if_neI (t := 54) dX3_troubleOf_49 (by decide) rfl (fun c49 => ?_) (fun c49 => ?_)
              · -- 49 t
                refine g_iload_n2 dX3_troubleOf_54 rfl ?_
                refine g_aload_n0 dX3_troubleOf_55 rfl ?_
                refine g_getr dX3_troubleOf_56 rfl fX3_46 hT.1 rfl ?_
                refine g_iload_n1 dX3_troubleOf_59 rfl ?_
                refine g_ialdI dX3_troubleOf_60 rfl (tw_has hT) ⟨by omega, by omega⟩ ?_
                refine g_iconstI dX3_troubleOf_61 rfl rfl (fun w61 h61 => ?_)
                refine g_ixorB dX3_troubleOf_62 rfl  (fun w62 h62 => ?_)
                refine g_iandB dX3_troubleOf_63 rfl  (fun w63 h63 => ?_)
                rw [h62, bn_neg1 h61, and_not (bn_lt _)] at h63
                have hndle := nd_le (bn s) (bn (M.1 (t + 6) g.toInt.toNat))
                have e63 : w63.toInt = bn w63 := i_bn (by omega)
                have e63b : nd s.toInt.toNat (has M t g.toInt.toNat) = bn w63 := by rw [hs2, h63]; rfl
                refine g_if_neI (t := 77) dX3_troubleOf_64 (by decide) rfl (fun c64 => ?_) (fun c64 => ?_)
                · -- 64 t
                  refine g_iconstI dX3_troubleOf_77 rfl rfl (fun w77 h77 => ?_)
                  refine g_iret dX3_troubleOf_78 rfl ?_
                  refine ⟨_, rfl, rfl, ?_⟩
                  rw [troub, if_neg (by omega), if_neg (by omega), if_neg (by omega)]
                  rw [e63b, if_pos (by omega), h77]
                · -- 64 f
                  refine g_iload_n3 dX3_troubleOf_67 rfl ?_
                  refine g_aload_n0 dX3_troubleOf_68 rfl ?_
                  refine g_getr dX3_troubleOf_69 rfl fX3_37 hT.1 rfl ?_
                  refine g_iload_n1 dX3_troubleOf_72 rfl ?_
                  refine g_ialdI dX3_troubleOf_73 rfl (tw_sand hT) ⟨by omega, by omega⟩ ?_
                  refine g_icmp_leI (t := 79) dX3_troubleOf_74 (by decide) rfl (fun c74 => ?_) (fun c74 => ?_)
                  · -- 74 t
                    refine g_iload4 dX3_troubleOf_79 rfl ?_
                    refine g_iload_n1 dX3_troubleOf_81 rfl ?_
                    refine g_icmp_eqI (t := 106) dX3_troubleOf_82 (by decide) rfl (fun c82 => ?_) (fun c82 => ?_)
                    · -- 82 t
                      refine g_iconstI dX3_troubleOf_106 rfl rfl (fun w106 h106 => ?_)
                      refine g_iret dX3_troubleOf_107 rfl ?_
                      refine ⟨_, rfl, rfl, ?_⟩
                      rw [troub, if_neg (by omega), if_neg (by omega), if_neg (by omega)]
                      rw [e63b, if_neg (by omega), if_pos (by omega), h106]
                    · -- 82 f
                      refine g_aload_n0 dX3_troubleOf_85 rfl ?_
                      refine g_getr dX3_troubleOf_86 rfl fX3_43 hT.1 rfl ?_
                      refine g_iload_n1 dX3_troubleOf_89 rfl ?_
                      refine g_ialdI dX3_troubleOf_90 rfl (tw_owedTo hT) ⟨by omega, by omega⟩ ?_
                      refine g_iconstI dX3_troubleOf_91 rfl rfl (fun w91 h91 => ?_)
                      refine g_icmp_eqI (t := 108) dX3_troubleOf_92 (by decide) rfl (fun c92 => ?_) (fun c92 => ?_)
                      · -- 92 t
                        refine g_aload_n0 dX3_troubleOf_108 rfl ?_
                        refine g_iload_n2 dX3_troubleOf_109 rfl ?_
                        refine g_callVi1 dX3_troubleOf_110 rfl vX3_80 hT.1 rfl (c_weightOf hT hB ⟨by omega, by omega⟩) (g_rm (by omega)) (Nat.le_of_ble_eq_true rfl) (fun z110 M110 e110 => ?_)
                        obtain ⟨rfl, e110⟩ := e110
                        have hwr := wt_rng (s := s.toInt.toNat) hB
                        refine g_iload_n3 dX3_troubleOf_113 rfl ?_
                        refine g_iaddI dX3_troubleOf_114 rfl ⟨by omega, by omega⟩ (fun w114 h114 => ?_)
                        refine g_istore5 dX3_troubleOf_115 rfl rfl ?_
                        refine g_iload5 dX3_troubleOf_117 rfl ?_
                        refine g_aload_n0 dX3_troubleOf_119 rfl ?_
                        refine g_iload_n1 dX3_troubleOf_120 rfl ?_
                        refine g_callVi1 dX3_troubleOf_121 rfl vX3_84 hT.1 rfl (c_lightest hT hB ⟨by omega, by omega⟩) (g_rm (by omega)) (Nat.le_of_ble_eq_true rfl) (fun z121 M121 e121 => ?_)
                        obtain ⟨rfl, e121⟩ := e121
                        refine g_icmp_geI (t := 129) dX3_troubleOf_124 (by decide) rfl (fun c124 => ?_) (fun c124 => ?_)
                        · -- 124 t
                          refine g_iload5 dX3_troubleOf_129 rfl ?_
                          refine g_aload_n0 dX3_troubleOf_131 rfl ?_
                          refine g_iload_n1 dX3_troubleOf_132 rfl ?_
                          refine g_callVi1 dX3_troubleOf_133 rfl vX3_87 hT.1 rfl (c_heaviest hT hB ⟨by omega, by omega⟩) (g_rm (by omega)) (Nat.le_of_ble_eq_true rfl) (fun z133 M133 e133 => ?_)
                          obtain ⟨rfl, e133⟩ := e133
                          refine g_icmp_leI (t := 144) dX3_troubleOf_136 (by decide) rfl (fun c136 => ?_) (fun c136 => ?_)
                          · -- 136 t
                            refine g_iconstI dX3_troubleOf_144 rfl rfl (fun w144 h144 => ?_)
                            refine g_iret dX3_troubleOf_145 rfl ?_
                            refine ⟨_, rfl, rfl, ?_⟩
                            rw [troub, if_neg (by omega), if_neg (by omega), if_neg (by omega)]
                            rw [e63b, if_neg (by omega), if_neg (by omega), if_neg (by omega)]
                            first
                              | (rw [if_pos (by omega)]; omega)
                              | (rw [if_neg (by omega)]; omega)
                          · -- 136 f
                            refine g_bipushI dX3_troubleOf_139 rfl rfl (fun w139 h139 => ?_)
                            refine g_goto (t := 145) dX3_troubleOf_141 (by decide) ?_
                            refine g_iret dX3_troubleOf_145 rfl ?_
                            refine ⟨_, rfl, rfl, ?_⟩
                            rw [troub, if_neg (by omega), if_neg (by omega), if_neg (by omega)]
                            rw [e63b, if_neg (by omega), if_neg (by omega), if_neg (by omega)]
                            first
                              | (rw [if_pos (by omega)]; omega)
                              | (rw [if_neg (by omega)]; omega)
                        · -- 124 f
                          refine g_iconstI dX3_troubleOf_127 rfl rfl (fun w127 h127 => ?_)
                          refine g_iret dX3_troubleOf_128 rfl ?_
                          refine ⟨_, rfl, rfl, ?_⟩
                          rw [troub, if_neg (by omega), if_neg (by omega), if_neg (by omega)]
                          rw [e63b, if_neg (by omega), if_neg (by omega), if_pos (by omega), h127]
                      · -- 92 f
                        refine g_aload_n0 dX3_troubleOf_95 rfl ?_
                        refine g_getr dX3_troubleOf_96 rfl fX3_43 hT.1 rfl ?_
                        refine g_iload_n1 dX3_troubleOf_99 rfl ?_
                        refine g_ialdI dX3_troubleOf_100 rfl (tw_owedTo hT) ⟨by omega, by omega⟩ ?_
                        refine g_iload4 dX3_troubleOf_101 rfl ?_
                        refine g_icmp_eqI (t := 108) dX3_troubleOf_103 (by decide) rfl (fun c103 => ?_) (fun c103 => ?_)
                        · -- 103 t
                          refine g_aload_n0 dX3_troubleOf_108 rfl ?_
                          refine g_iload_n2 dX3_troubleOf_109 rfl ?_
                          refine g_callVi1 dX3_troubleOf_110 rfl vX3_80 hT.1 rfl (c_weightOf hT hB ⟨by omega, by omega⟩) (g_rm (by omega)) (Nat.le_of_ble_eq_true rfl) (fun z110 M110 e110 => ?_)
                          obtain ⟨rfl, e110⟩ := e110
                          have hwr := wt_rng (s := s.toInt.toNat) hB
                          refine g_iload_n3 dX3_troubleOf_113 rfl ?_
                          refine g_iaddI dX3_troubleOf_114 rfl ⟨by omega, by omega⟩ (fun w114 h114 => ?_)
                          refine g_istore5 dX3_troubleOf_115 rfl rfl ?_
                          refine g_iload5 dX3_troubleOf_117 rfl ?_
                          refine g_aload_n0 dX3_troubleOf_119 rfl ?_
                          refine g_iload_n1 dX3_troubleOf_120 rfl ?_
                          refine g_callVi1 dX3_troubleOf_121 rfl vX3_84 hT.1 rfl (c_lightest hT hB ⟨by omega, by omega⟩) (g_rm (by omega)) (Nat.le_of_ble_eq_true rfl) (fun z121 M121 e121 => ?_)
                          obtain ⟨rfl, e121⟩ := e121
                          refine g_icmp_geI (t := 129) dX3_troubleOf_124 (by decide) rfl (fun c124 => ?_) (fun c124 => ?_)
                          · -- 124 t
                            refine g_iload5 dX3_troubleOf_129 rfl ?_
                            refine g_aload_n0 dX3_troubleOf_131 rfl ?_
                            refine g_iload_n1 dX3_troubleOf_132 rfl ?_
                            refine g_callVi1 dX3_troubleOf_133 rfl vX3_87 hT.1 rfl (c_heaviest hT hB ⟨by omega, by omega⟩) (g_rm (by omega)) (Nat.le_of_ble_eq_true rfl) (fun z133 M133 e133 => ?_)
                            obtain ⟨rfl, e133⟩ := e133
                            refine g_icmp_leI (t := 144) dX3_troubleOf_136 (by decide) rfl (fun c136 => ?_) (fun c136 => ?_)
                            · -- 136 t
                              refine g_iconstI dX3_troubleOf_144 rfl rfl (fun w144 h144 => ?_)
                              refine g_iret dX3_troubleOf_145 rfl ?_
                              refine ⟨_, rfl, rfl, ?_⟩
                              rw [troub, if_neg (by omega), if_neg (by omega), if_neg (by omega)]
                              rw [e63b, if_neg (by omega), if_neg (by omega), if_neg (by omega)]
                              first
                                | (rw [if_pos (by omega)]; omega)
                                | (rw [if_neg (by omega)]; omega)
                            · -- 136 f
                              refine g_bipushI dX3_troubleOf_139 rfl rfl (fun w139 h139 => ?_)
                              refine g_goto (t := 145) dX3_troubleOf_141 (by decide) ?_
                              refine g_iret dX3_troubleOf_145 rfl ?_
                              refine ⟨_, rfl, rfl, ?_⟩
                              rw [troub, if_neg (by omega), if_neg (by omega), if_neg (by omega)]
                              rw [e63b, if_neg (by omega), if_neg (by omega), if_neg (by omega)]
                              first
                                | (rw [if_pos (by omega)]; omega)
                                | (rw [if_neg (by omega)]; omega)
                          · -- 124 f
                            refine g_iconstI dX3_troubleOf_127 rfl rfl (fun w127 h127 => ?_)
                            refine g_iret dX3_troubleOf_128 rfl ?_
                            refine ⟨_, rfl, rfl, ?_⟩
                            rw [troub, if_neg (by omega), if_neg (by omega), if_neg (by omega)]
                            rw [e63b, if_neg (by omega), if_neg (by omega), if_pos (by omega), h127]
                        · -- 103 f
                          refine g_iconstI dX3_troubleOf_106 rfl rfl (fun w106 h106 => ?_)
                          refine g_iret dX3_troubleOf_107 rfl ?_
                          refine ⟨_, rfl, rfl, ?_⟩
                          rw [troub, if_neg (by omega), if_neg (by omega), if_neg (by omega)]
                          rw [e63b, if_neg (by omega), if_pos (by omega), h106]
                  · -- 74 f
                    refine g_iconstI dX3_troubleOf_77 rfl rfl (fun w77 h77 => ?_)
                    refine g_iret dX3_troubleOf_78 rfl ?_
                    refine ⟨_, rfl, rfl, ?_⟩
                    rw [troub, if_neg (by omega), if_neg (by omega), if_neg (by omega)]
                    rw [e63b, if_pos (by omega), h77]
              · -- 49 f
                refine g_iconstI dX3_troubleOf_52 rfl rfl (fun w52 h52 => ?_)
                refine g_iret dX3_troubleOf_53 rfl ?_
                refine ⟨_, rfl, rfl, ?_⟩
                rw [troub, if_neg (by omega), if_neg (by omega)]
                rw [if_pos (by omega), h52]
            · -- 38 f
              refine g_iconstI dX3_troubleOf_41 rfl rfl (fun w41 h41 => ?_)
              refine g_iret dX3_troubleOf_42 rfl ?_
              refine ⟨_, rfl, rfl, ?_⟩
              rw [troub, if_neg (by omega)]
              rw [if_pos (by omega), h41]
        · -- 23 f
          refine g_iconstI dX3_troubleOf_26 rfl rfl (fun w26 h26 => ?_)
          refine g_iret dX3_troubleOf_27 rfl ?_
          refine ⟨_, rfl, rfl, ?_⟩
          rw [troub, if_pos (by omega), h26]
