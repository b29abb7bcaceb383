set_option maxHeartbeats 4000000 in
theorem l_cheapest {Γ : gW} {t : Nat} {M : gM} (hT : g_Town Γ t) (hB : TB M t) {p : Int32} (hp : 0 ≤ p.toInt ∧ p.toInt < 6) {lo hi : Int32} {Q : Option Value → gM → Prop} (hQ : ∀ z : Int32, CH (fun u => sub u (has M t p.toInt.toNat) ∧ fitW M t lo.toInt hi.toInt u) (costS M t p.toInt.toNat) z.toInt → Q (some (.int z)) M) : ∀ (n : Nat) (b bc s k : Int32) (z8 : Option Value), (if s.toInt = -1 then 0 else 4097 - s.toInt).toNat = n → 0 ≤ k.toInt → -1 ≤ s.toInt → (¬ s.toInt = -1 → k.toInt ≤ s.toInt) → CH (PB M t (has M t p.toInt.toNat) lo.toInt hi.toInt s.toInt) (costS M t p.toInt.toNat) b.toInt → (∀ n : Nat, b.toInt = (n : Int) → bc.toInt = costS M t p.toInt.toNat n) → (∀ n : Nat, s.toInt = (n : Int) → sub n (has M t p.toInt.toNat) ∧ fitW M t lo.toInt hi.toInt n) → G Γ μX3_cheapestFit (g_R 2) (0, 0) (g_Z Γ Q) 43 [some (.ref t), some (.int p), some (.int lo), some (.int hi), some (.int b), some (.int bc), some (.int s), some (.int k), z8] [] M := by
  intro n
  induction n using Nat.strongRecOn with
  | ind n ih =>
    intro b bc s k z8 hn hk0 hs0 hk1 hch hbc hs2
    have hb0 := hB.1
    obtain ⟨h_pe, h_th, h_la, h_wi, h_da, h_we⟩ := id hb0
    have hb1 := hB.2.1 p.toInt.toNat (by omega)
    obtain ⟨h_k, h_g, h_s, h_o, h_ot, h_h⟩ := id hb1
    have ehas : ((has M t p.toInt.toNat : Nat) : Int) = (M.1 (t + 6) p.toInt.toNat).toInt := i_bn2 (by omega)
    refine g_iload7 dX3_cheapestFit_43 rfl ?_
    refine g_sipushI dX3_cheapestFit_45 rfl rfl (fun w45 h45 => ?_)
    refine g_icmp_geI (t := 126) dX3_cheapestFit_48 (by decide) rfl (fun c48 => ?_) (fun c48 => ?_)
    · -- 48 t
      have hx : s.toInt = -1 := by
        by_cases h : s.toInt = -1
        · exact h
        · obtain ⟨n0, en0⟩ : ∃ n0 : Nat, s.toInt = (n0 : Int) := ⟨s.toInt.toNat, by omega⟩
          have := sub_le (hs2 n0 en0).1
          have := hk1 h
          omega
      refine g_iload4 dX3_cheapestFit_126 rfl ?_
      refine g_iret dX3_cheapestFit_128 rfl ?_
      refine hQ _ (ch_congr (fun u => ⟨fun h => ⟨h.1, h.2.1⟩, fun h => ⟨h.1, h.2, Or.inl hx⟩⟩) (fun _ _ => rfl) hch)
    · -- 48 f
      refine g_iload6 dX3_cheapestFit_51 rfl ?_
      refine g_iconstI dX3_cheapestFit_53 rfl rfl (fun w53 h53 => ?_)
      refine g_icmp_eqI (t := 126) dX3_cheapestFit_54 (by decide) rfl (fun c54 => ?_) (fun c54 => ?_)
      · -- 54 t
        have hx : s.toInt = -1 := by omega
        refine g_iload4 dX3_cheapestFit_126 rfl ?_
        refine g_iret dX3_cheapestFit_128 rfl ?_
        refine hQ _ (ch_congr (fun u => ⟨fun h => ⟨h.1, h.2.1⟩, fun h => ⟨h.1, h.2, Or.inl hx⟩⟩) (fun _ _ => rfl) hch)
      · -- 54 f
        obtain ⟨n0, en0⟩ : ∃ n0 : Nat, s.toInt = (n0 : Int) := ⟨s.toInt.toNat, by omega⟩
        have hsn := hs2 n0 en0
        have hle0 := sub_le hsn.1
        have enn : s.toInt.toNat = n0 := by omega
        have hk2 := hk1 (by omega)
        have hlt : ∀ u, PB M t (has M t p.toInt.toNat) lo.toInt hi.toInt s.toInt u → u < n0 := fun u hu => by have := hu.2.2; omega
        refine g_aload_n0 dX3_cheapestFit_57 rfl ?_
        refine g_getr dX3_cheapestFit_58 rfl fX3_30 hT.1 rfl ?_
        refine g_iload_n1 dX3_cheapestFit_61 rfl ?_
        refine g_ialdI dX3_cheapestFit_62 rfl (tw_kind hT) ⟨by omega, by omega⟩ ?_
        refine g_iconstI dX3_cheapestFit_63 rfl rfl (fun w63 h63 => ?_)
        refine g_icmp_neI (t := 76) dX3_cheapestFit_64 (by decide) rfl (fun c64 => ?_) (fun c64 => ?_)
        · -- 64 t
          refine g_iload6 dX3_cheapestFit_76 rfl ?_
          refine g_callJi1 dX3_cheapestFit_78 rfl kX3_122 (c_bitCount ⟨by omega, by omega⟩) (g_rm (by omega)) (Nat.le_of_ble_eq_true rfl) (fun z78 M78 e78 => ?_)
          obtain ⟨rfl, e78⟩ := e78
          have hcost : z78.toInt = costS M78 t p.toInt.toNat n0 := by rw [costS, if_neg (by omega), e78, enn]
          refine g_istore8 dX3_cheapestFit_81 rfl rfl ?_
          refine g_iload4 dX3_cheapestFit_83 rfl ?_
          refine g_iconstI dX3_cheapestFit_85 rfl rfl (fun w85 h85 => ?_)
          refine g_icmp_eqI (t := 96) dX3_cheapestFit_86 (by decide) rfl (fun c86 => ?_) (fun c86 => ?_)
          · -- 86 t
            refine g_iload6 dX3_cheapestFit_96 rfl ?_
            refine g_istore4 dX3_cheapestFit_98 rfl rfl ?_
            refine g_iload8 dX3_cheapestFit_100 rfl ?_
            refine g_istore5 dX3_cheapestFit_102 rfl rfl ?_
            refine g_aload_n0 dX3_cheapestFit_104 rfl ?_
            refine g_aload_n0 dX3_cheapestFit_105 rfl ?_
            refine g_getr dX3_cheapestFit_106 rfl fX3_46 hT.1 rfl ?_
            refine g_iload_n1 dX3_cheapestFit_109 rfl ?_
            refine g_ialdI dX3_cheapestFit_110 rfl (tw_has hT) ⟨by omega, by omega⟩ ?_
            refine g_iload6 dX3_cheapestFit_111 rfl ?_
            refine g_iload_n2 dX3_cheapestFit_113 rfl ?_
            refine g_iload_n3 dX3_cheapestFit_114 rfl ?_
            refine g_callVi4 dX3_cheapestFit_115 rfl vX3_100 hT.1 rfl (c_nextSet hT hB ⟨by omega, by omega⟩ (Or.inr ⟨by omega, by rw [bn_toNat (by omega), enn]; exact hsn.1⟩)) (g_rm (by omega)) (Nat.le_of_ble_eq_true rfl) (fun z115 M115 e115 => ?_)
            obtain ⟨rfl, e115⟩ := e115
            rw [en0] at e115
            obtain ⟨hz1, hz2, hs3⟩ := nx_next (by omega) e115
            refine g_istore6 dX3_cheapestFit_118 rfl rfl ?_
            refine g_iincI7 dX3_cheapestFit_120 rfl rfl rfl ⟨by omega, by omega⟩ (fun w120 h120 => ?_)
            refine g_goto (t := 43) dX3_cheapestFit_123 (by decide) ?_
            rw [en0] at hch
            first
              | exact ih _ (by omega) b bc _ _ _ rfl (by omega) (by omega) (by omega) (ch_nextK hch hsn e115 (by omega) (fun m hm => by have := hbc m hm; omega)) hbc hs3
              | exact ih _ (by omega) s _ _ _ _ rfl (by omega) (by omega) (by omega) (by rw [en0]; exact ch_nextN hch hsn e115 (fun m hm => by have := hbc m hm; omega)) (fun n hn => (show n0 = n by omega) ▸ hcost) hs3
          · -- 86 f
            refine g_iload8 dX3_cheapestFit_89 rfl ?_
            refine g_iload5 dX3_cheapestFit_91 rfl ?_
            refine g_icmp_geI (t := 104) dX3_cheapestFit_93 (by decide) rfl (fun c93 => ?_) (fun c93 => ?_)
            · -- 93 t
              refine g_aload_n0 dX3_cheapestFit_104 rfl ?_
              refine g_aload_n0 dX3_cheapestFit_105 rfl ?_
              refine g_getr dX3_cheapestFit_106 rfl fX3_46 hT.1 rfl ?_
              refine g_iload_n1 dX3_cheapestFit_109 rfl ?_
              refine g_ialdI dX3_cheapestFit_110 rfl (tw_has hT) ⟨by omega, by omega⟩ ?_
              refine g_iload6 dX3_cheapestFit_111 rfl ?_
              refine g_iload_n2 dX3_cheapestFit_113 rfl ?_
              refine g_iload_n3 dX3_cheapestFit_114 rfl ?_
              refine g_callVi4 dX3_cheapestFit_115 rfl vX3_100 hT.1 rfl (c_nextSet hT hB ⟨by omega, by omega⟩ (Or.inr ⟨by omega, by rw [bn_toNat (by omega), enn]; exact hsn.1⟩)) (g_rm (by omega)) (Nat.le_of_ble_eq_true rfl) (fun z115 M115 e115 => ?_)
              obtain ⟨rfl, e115⟩ := e115
              rw [en0] at e115
              obtain ⟨hz1, hz2, hs3⟩ := nx_next (by omega) e115
              refine g_istore6 dX3_cheapestFit_118 rfl rfl ?_
              refine g_iincI7 dX3_cheapestFit_120 rfl rfl rfl ⟨by omega, by omega⟩ (fun w120 h120 => ?_)
              refine g_goto (t := 43) dX3_cheapestFit_123 (by decide) ?_
              rw [en0] at hch
              first
                | exact ih _ (by omega) b bc _ _ _ rfl (by omega) (by omega) (by omega) (ch_nextK hch hsn e115 (by omega) (fun m hm => by have := hbc m hm; omega)) hbc hs3
                | exact ih _ (by omega) s _ _ _ _ rfl (by omega) (by omega) (by omega) (by rw [en0]; exact ch_nextN hch hsn e115 (fun m hm => by have := hbc m hm; omega)) (fun n hn => (show n0 = n by omega) ▸ hcost) hs3
            · -- 93 f
              refine g_iload6 dX3_cheapestFit_96 rfl ?_
              refine g_istore4 dX3_cheapestFit_98 rfl rfl ?_
              refine g_iload8 dX3_cheapestFit_100 rfl ?_
              refine g_istore5 dX3_cheapestFit_102 rfl rfl ?_
              refine g_aload_n0 dX3_cheapestFit_104 rfl ?_
              refine g_aload_n0 dX3_cheapestFit_105 rfl ?_
              refine g_getr dX3_cheapestFit_106 rfl fX3_46 hT.1 rfl ?_
              refine g_iload_n1 dX3_cheapestFit_109 rfl ?_
              refine g_ialdI dX3_cheapestFit_110 rfl (tw_has hT) ⟨by omega, by omega⟩ ?_
              refine g_iload6 dX3_cheapestFit_111 rfl ?_
              refine g_iload_n2 dX3_cheapestFit_113 rfl ?_
              refine g_iload_n3 dX3_cheapestFit_114 rfl ?_
              refine g_callVi4 dX3_cheapestFit_115 rfl vX3_100 hT.1 rfl (c_nextSet hT hB ⟨by omega, by omega⟩ (Or.inr ⟨by omega, by rw [bn_toNat (by omega), enn]; exact hsn.1⟩)) (g_rm (by omega)) (Nat.le_of_ble_eq_true rfl) (fun z115 M115 e115 => ?_)
              obtain ⟨rfl, e115⟩ := e115
              rw [en0] at e115
              obtain ⟨hz1, hz2, hs3⟩ := nx_next (by omega) e115
              refine g_istore6 dX3_cheapestFit_118 rfl rfl ?_
              refine g_iincI7 dX3_cheapestFit_120 rfl rfl rfl ⟨by omega, by omega⟩ (fun w120 h120 => ?_)
              refine g_goto (t := 43) dX3_cheapestFit_123 (by decide) ?_
              rw [en0] at hch
              first
                | exact ih _ (by omega) b bc _ _ _ rfl (by omega) (by omega) (by omega) (ch_nextK hch hsn e115 (by omega) (fun m hm => by have := hbc m hm; omega)) hbc hs3
                | exact ih _ (by omega) s _ _ _ _ rfl (by omega) (by omega) (by omega) (by rw [en0]; exact ch_nextN hch hsn e115 (fun m hm => by have := hbc m hm; omega)) (fun n hn => (show n0 = n by omega) ▸ hcost) hs3
        · -- 64 f
          refine g_aload_n0 dX3_cheapestFit_67 rfl ?_
          refine g_iload6 dX3_cheapestFit_68 rfl ?_
          refine g_callVi1 dX3_cheapestFit_70 rfl vX3_119 hT.1 rfl (c_worthOf hT hB ⟨by omega, by omega⟩) (g_rm (by omega)) (Nat.le_of_ble_eq_true rfl) (fun z70 M70 e70 => ?_)
          obtain ⟨rfl, e70⟩ := e70
          have hcost : z70.toInt = costS M70 t p.toInt.toNat n0 := by rw [costS, if_pos (by omega), e70, enn]; rfl
          refine g_goto (t := 81) dX3_cheapestFit_73 (by decide) ?_
          refine g_istore8 dX3_cheapestFit_81 rfl rfl ?_
          refine g_iload4 dX3_cheapestFit_83 rfl ?_
          refine g_iconstI dX3_cheapestFit_85 rfl rfl (fun w85 h85 => ?_)
          refine g_icmp_eqI (t := 96) dX3_cheapestFit_86 (by decide) rfl (fun c86 => ?_) (fun c86 => ?_)
          · -- 86 t
            refine g_iload6 dX3_cheapestFit_96 rfl ?_
            refine g_istore4 dX3_cheapestFit_98 rfl rfl ?_
            refine g_iload8 dX3_cheapestFit_100 rfl ?_
            refine g_istore5 dX3_cheapestFit_102 rfl rfl ?_
            refine g_aload_n0 dX3_cheapestFit_104 rfl ?_
            refine g_aload_n0 dX3_cheapestFit_105 rfl ?_
            refine g_getr dX3_cheapestFit_106 rfl fX3_46 hT.1 rfl ?_
            refine g_iload_n1 dX3_cheapestFit_109 rfl ?_
            refine g_ialdI dX3_cheapestFit_110 rfl (tw_has hT) ⟨by omega, by omega⟩ ?_
            refine g_iload6 dX3_cheapestFit_111 rfl ?_
            refine g_iload_n2 dX3_cheapestFit_113 rfl ?_
            refine g_iload_n3 dX3_cheapestFit_114 rfl ?_
            refine g_callVi4 dX3_cheapestFit_115 rfl vX3_100 hT.1 rfl (c_nextSet hT hB ⟨by omega, by omega⟩ (Or.inr ⟨by omega, by rw [bn_toNat (by omega), enn]; exact hsn.1⟩)) (g_rm (by omega)) (Nat.le_of_ble_eq_true rfl) (fun z115 M115 e115 => ?_)
            obtain ⟨rfl, e115⟩ := e115
            rw [en0] at e115
            obtain ⟨hz1, hz2, hs3⟩ := nx_next (by omega) e115
            refine g_istore6 dX3_cheapestFit_118 rfl rfl ?_
            refine g_iincI7 dX3_cheapestFit_120 rfl rfl rfl ⟨by omega, by omega⟩ (fun w120 h120 => ?_)
            refine g_goto (t := 43) dX3_cheapestFit_123 (by decide) ?_
            rw [en0] at hch
            first
              | exact ih _ (by omega) b bc _ _ _ rfl (by omega) (by omega) (by omega) (ch_nextK hch hsn e115 (by omega) (fun m hm => by have := hbc m hm; omega)) hbc hs3
              | exact ih _ (by omega) s _ _ _ _ rfl (by omega) (by omega) (by omega) (by rw [en0]; exact ch_nextN hch hsn e115 (fun m hm => by have := hbc m hm; omega)) (fun n hn => (show n0 = n by omega) ▸ hcost) hs3
          · -- 86 f
            refine g_iload8 dX3_cheapestFit_89 rfl ?_
            refine g_iload5 dX3_cheapestFit_91 rfl ?_
            refine g_icmp_geI (t := 104) dX3_cheapestFit_93 (by decide) rfl (fun c93 => ?_) (fun c93 => ?_)
            · -- 93 t
              refine g_aload_n0 dX3_cheapestFit_104 rfl ?_
              refine g_aload_n0 dX3_cheapestFit_105 rfl ?_
              refine g_getr dX3_cheapestFit_106 rfl fX3_46 hT.1 rfl ?_
              refine g_iload_n1 dX3_cheapestFit_109 rfl ?_
              refine g_ialdI dX3_cheapestFit_110 rfl (tw_has hT) ⟨by omega, by omega⟩ ?_
              refine g_iload6 dX3_cheapestFit_111 rfl ?_
              refine g_iload_n2 dX3_cheapestFit_113 rfl ?_
              refine g_iload_n3 dX3_cheapestFit_114 rfl ?_
              refine g_callVi4 dX3_cheapestFit_115 rfl vX3_100 hT.1 rfl (c_nextSet hT hB ⟨by omega, by omega⟩ (Or.inr ⟨by omega, by rw [bn_toNat (by omega), enn]; exact hsn.1⟩)) (g_rm (by omega)) (Nat.le_of_ble_eq_true rfl) (fun z115 M115 e115 => ?_)
              obtain ⟨rfl, e115⟩ := e115
              rw [en0] at e115
              obtain ⟨hz1, hz2, hs3⟩ := nx_next (by omega) e115
              refine g_istore6 dX3_cheapestFit_118 rfl rfl ?_
              refine g_iincI7 dX3_cheapestFit_120 rfl rfl rfl ⟨by omega, by omega⟩ (fun w120 h120 => ?_)
              refine g_goto (t := 43) dX3_cheapestFit_123 (by decide) ?_
              rw [en0] at hch
              first
                | exact ih _ (by omega) b bc _ _ _ rfl (by omega) (by omega) (by omega) (ch_nextK hch hsn e115 (by omega) (fun m hm => by have := hbc m hm; omega)) hbc hs3
                | exact ih _ (by omega) s _ _ _ _ rfl (by omega) (by omega) (by omega) (by rw [en0]; exact ch_nextN hch hsn e115 (fun m hm => by have := hbc m hm; omega)) (fun n hn => (show n0 = n by omega) ▸ hcost) hs3
            · -- 93 f
              refine g_iload6 dX3_cheapestFit_96 rfl ?_
              refine g_istore4 dX3_cheapestFit_98 rfl rfl ?_
              refine g_iload8 dX3_cheapestFit_100 rfl ?_
              refine g_istore5 dX3_cheapestFit_102 rfl rfl ?_
              refine g_aload_n0 dX3_cheapestFit_104 rfl ?_
              refine g_aload_n0 dX3_cheapestFit_105 rfl ?_
              refine g_getr dX3_cheapestFit_106 rfl fX3_46 hT.1 rfl ?_
              refine g_iload_n1 dX3_cheapestFit_109 rfl ?_
              refine g_ialdI dX3_cheapestFit_110 rfl (tw_has hT) ⟨by omega, by omega⟩ ?_
              refine g_iload6 dX3_cheapestFit_111 rfl ?_
              refine g_iload_n2 dX3_cheapestFit_113 rfl ?_
              refine g_iload_n3 dX3_cheapestFit_114 rfl ?_
              refine g_callVi4 dX3_cheapestFit_115 rfl vX3_100 hT.1 rfl (c_nextSet hT hB ⟨by omega, by omega⟩ (Or.inr ⟨by omega, by rw [bn_toNat (by omega), enn]; exact hsn.1⟩)) (g_rm (by omega)) (Nat.le_of_ble_eq_true rfl) (fun z115 M115 e115 => ?_)
              obtain ⟨rfl, e115⟩ := e115
              rw [en0] at e115
              obtain ⟨hz1, hz2, hs3⟩ := nx_next (by omega) e115
              refine g_istore6 dX3_cheapestFit_118 rfl rfl ?_
              refine g_iincI7 dX3_cheapestFit_120 rfl rfl rfl ⟨by omega, by omega⟩ (fun w120 h120 => ?_)
              refine g_goto (t := 43) dX3_cheapestFit_123 (by decide) ?_
              rw [en0] at hch
              first
                | exact ih _ (by omega) b bc _ _ _ rfl (by omega) (by omega) (by omega) (ch_nextK hch hsn e115 (by omega) (fun m hm => by have := hbc m hm; omega)) hbc hs3
                | exact ih _ (by omega) s _ _ _ _ rfl (by omega) (by omega) (by omega) (by rw [en0]; exact ch_nextN hch hsn e115 (fun m hm => by have := hbc m hm; omega)) (fun n hn => (show n0 = n by omega) ▸ hcost) hs3
set_option maxHeartbeats 4000000 in
theorem c_cheapest {Γ : gW} {t : Nat} {M : gM} (hT : g_Town Γ t) (hB : TB M t) {p : Int32} (hp : 0 ≤ p.toInt ∧ p.toInt < 6) : Ct Γ yX3_cheapestFit μX3_cheapestFit 2 [.ref t, .int p] M (g_qi (fun z M1 => M1 = M ∧ CH (fun u => sub u (has M t p.toInt.toNat) ∧ fitW M t (lgt M t p.toInt.toNat - (M.1 (t + 3) p.toInt.toNat).toInt) (hvy M t p.toInt.toNat) u) (costS M t p.toInt.toNat) z.toInt)) := by
  have hb0 := hB.1
  obtain ⟨h_pe, h_th, h_la, h_wi, h_da, h_we⟩ := id hb0
  have hb1 := hB.2.1 p.toInt.toNat (by omega)
  obtain ⟨h_k, h_g, h_s, h_o, h_ot, h_h⟩ := id hb1
  have hlr := lgt_rng (p := p.toInt.toNat) hB (by omega)
  have hhr := hvy_rng (p := p.toInt.toNat) hB (by omega)
  have ehas : ((has M t p.toInt.toNat : Nat) : Int) = (M.1 (t + 6) p.toInt.toNat).toInt := i_bn2 (by omega)
  refine g_enter rfl rfl rfl (Nat.le_of_ble_eq_true rfl) ?_
  show G Γ _ _ _ _ 0 [some (.ref t), some (.int p), none, none, none, none, none, none, none] [] M
  refine g_aload_n0 dX3_cheapestFit_0 rfl ?_
  refine g_iload_n1 dX3_cheapestFit_1 rfl ?_
  refine g_callVi1 dX3_cheapestFit_2 rfl vX3_84 hT.1 rfl (c_lightest hT hB hp) (g_rm (by omega)) (Nat.le_of_ble_eq_true rfl) (fun z2 M2 e2 => ?_)
  obtain ⟨rfl, e2⟩ := e2
  refine g_aload_n0 dX3_cheapestFit_5 rfl ?_
  refine g_getr dX3_cheapestFit_6 rfl fX3_37 hT.1 rfl ?_
  refine g_iload_n1 dX3_cheapestFit_9 rfl ?_
  refine g_ialdI dX3_cheapestFit_10 rfl (tw_sand hT) ⟨by omega, by omega⟩ ?_
  refine g_isubI dX3_cheapestFit_11 rfl ⟨by omega, by omega⟩ (fun w11 h11 => ?_)
  refine g_istore_n2 dX3_cheapestFit_12 rfl rfl ?_
  refine g_aload_n0 dX3_cheapestFit_13 rfl ?_
  refine g_iload_n1 dX3_cheapestFit_14 rfl ?_
  refine g_callVi1 dX3_cheapestFit_15 rfl vX3_87 hT.1 rfl (c_heaviest hT hB hp) (g_rm (by omega)) (Nat.le_of_ble_eq_true rfl) (fun z15 M15 e15 => ?_)
  obtain ⟨rfl, e15⟩ := e15
  refine g_istore_n3 dX3_cheapestFit_18 rfl rfl ?_
  refine g_iconstI dX3_cheapestFit_19 rfl rfl (fun w19 h19 => ?_)
  refine g_istore4 dX3_cheapestFit_20 rfl rfl ?_
  refine g_iconstI dX3_cheapestFit_22 rfl rfl (fun w22 h22 => ?_)
  refine g_istore5 dX3_cheapestFit_23 rfl rfl ?_
  refine g_aload_n0 dX3_cheapestFit_25 rfl ?_
  refine g_aload_n0 dX3_cheapestFit_26 rfl ?_
  refine g_getr dX3_cheapestFit_27 rfl fX3_46 hT.1 rfl ?_
  refine g_iload_n1 dX3_cheapestFit_30 rfl ?_
  refine g_ialdI dX3_cheapestFit_31 rfl (tw_has hT) ⟨by omega, by omega⟩ ?_
  refine g_iconstI dX3_cheapestFit_32 rfl rfl (fun w32 h32 => ?_)
  refine g_iload_n2 dX3_cheapestFit_33 rfl ?_
  refine g_iload_n3 dX3_cheapestFit_34 rfl ?_
  refine g_callVi4 dX3_cheapestFit_35 rfl vX3_100 hT.1 rfl (c_nextSet hT hB ⟨by omega, by omega⟩ (Or.inl h32)) (g_rm (by omega)) (Nat.le_of_ble_eq_true rfl) (fun z35 M35 e35 => ?_)
  obtain ⟨rfl, e35⟩ := e35
  rw [h32] at e35
  refine g_istore6 dX3_cheapestFit_38 rfl rfl ?_
  refine g_iconstI dX3_cheapestFit_40 rfl rfl (fun w40 h40 => ?_)
  refine g_istore7 dX3_cheapestFit_41 rfl rfl ?_
  obtain ⟨hz1, hz2, hs3⟩ := nx_next (by omega) e35
  refine l_cheapest hT hB hp (lo := w11) (hi := z15) (fun z hz => ⟨_, rfl, rfl, ?_⟩) _ _ _ _ _ _ rfl (by omega) (by omega) (by omega) (by rw [h19]; exact pb_start e35) (fun n hn => by omega) hs3
  rw [h11, e2, e15] at hz
  exact hz
