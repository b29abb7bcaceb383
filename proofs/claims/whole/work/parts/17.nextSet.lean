set_option maxHeartbeats 4000000 in
theorem l_nextSet {Γ : gW} {t : Nat} {M : gM} (hT : g_Town Γ t) (hB : TB M t) {f a lo hi : Int32} (hf : 0 ≤ f.toInt ∧ f.toInt < 4096) {Q : Option Value → gM → Prop} (hQ : ∀ z : Int32, NX M t (bn f) a.toInt lo.toInt hi.toInt z.toInt → Q (some (.int z)) M) : ∀ (n : Nat) (s k : Int32) (z7 z8 : Option Value), 4096 - bn s = n → 0 ≤ k.toInt → k.toInt ≤ bn s → sub (bn s) (bn f) → a.toInt < (bn s : Int) → (∀ u : Nat, sub u (bn f) → a.toInt < (u : Int) → u < bn s → ¬ fitW M t lo.toInt hi.toInt u) → G Γ μX3_nextSet (g_R 1) (0, 0) (g_Z Γ Q) 31 [some (.ref t), some (.int f), some (.int a), some (.int lo), some (.int hi), some (.int s), some (.int k), z7, z8] [] M := by
  intro n
  induction n using Nat.strongRecOn with
  | ind n ih =>
    intro s k z7 z8 hn hk0 hk1 hs has hno
    have ef : (bn f : Int) = f.toInt := i_bn2 hf.1
    have hsle := sub_le hs
    have es : s.toInt = bn s := i_bn (by omega)
    have hf4 : bn f < 4096 := by omega
    have enat : s.toInt.toNat = bn s := by omega
    refine g_iload6 dX3_nextSet_31 rfl ?_
    refine g_sipushI dX3_nextSet_33 rfl rfl (fun w33 h33 => ?_)
    refine g_icmp_geI (t := 126) dX3_nextSet_36 (by decide) rfl (fun c36 => absurd c36 (by omega)) (fun c36 => ?_)
    refine g_aload_n0 dX3_nextSet_39 rfl ?_
    refine g_iload5 dX3_nextSet_40 rfl ?_
    refine g_callVi1 dX3_nextSet_42 rfl vX3_80 hT.1 rfl (c_weightOf hT hB ⟨by omega, by omega⟩) (g_rm (by omega)) (Nat.le_of_ble_eq_true rfl) (fun z42 M42 e42 => ?_)
    obtain ⟨rfl, e42⟩ := e42
    rw [enat] at e42
    refine g_istore7 dX3_nextSet_45 rfl rfl ?_
    refine g_iload_n1 dX3_nextSet_47 rfl ?_
    refine g_iload5 dX3_nextSet_48 rfl ?_
    refine g_iload5 dX3_nextSet_50 rfl ?_
    refine g_ineg dX3_nextSet_52 rfl ?_
    refine g_iandB dX3_nextSet_53 rfl  (fun w53 h53 => ?_)
    refine g_iconstI dX3_nextSet_54 rfl rfl (fun w54 h54 => ?_)
    refine g_isub dX3_nextSet_55 rfl ?_
    have e55 := bn_sub w53 w54
    refine g_iandB dX3_nextSet_56 rfl  (fun w56 h56 => ?_)
    have hbel : belP (bn f) (bn s) (bn w56) := by
      rw [h56, e55, bn_lit (n := 1) h54, h53, bn_neg]
      exact bel_spec hf4 hs
    obtain ⟨hb1, hb2, hb3, hb4⟩ := bel_row hB hf4 hs hbel
    have hble := sub_le hb1
    have hvle := sub_le hb2
    have eb : w56.toInt = bn w56 := i_bn (by omega)
    have ebn : w56.toInt.toNat = bn w56 := by omega
    have hwr := wt_rng (s := bn s) hB
    have hwb := wt_rng (s := bn w56) hB
    refine g_istore8 dX3_nextSet_57 rfl rfl ?_
    refine g_iload7 dX3_nextSet_59 rfl ?_
    refine g_iload4 dX3_nextSet_61 rfl ?_
    refine g_icmp_gtI (t := 79) dX3_nextSet_63 (by decide) rfl (fun c63 => ?_) (fun c63 => ?_)
    · -- 63 t
      refine g_iload_n1 dX3_nextSet_79 rfl ?_
      refine g_iload5 dX3_nextSet_80 rfl ?_
      refine g_iload8 dX3_nextSet_82 rfl ?_
      refine g_iorB dX3_nextSet_84 rfl  (fun w84 h84 => ?_)
      have hno2 : ∀ u : Nat, sub u (bn f) → a.toInt < (u : Int) → u ≤ bn s ||| bn w56 → ¬ fitW _ t lo.toInt hi.toInt u := fun u hu ha hle => by
        by_cases h : u < bn s
        · exact hno u hu ha h
        · have hr := hb4 u hu (by omega) hle
          rintro ⟨q1, q2⟩
          omega
      refine g_callSi2 dX3_nextSet_85 rfl sX3_104 (c_stepUp) (g_rm (by omega)) (Nat.le_of_ble_eq_true rfl) (fun z85 M85 e85 => ?_)
      obtain ⟨rfl, e85⟩ := e85
      rw [h84] at e85
      have hlt5 := sub_le (stp_sub (bn f) (bn s ||| bn w56))
      have hz : z85.toInt = bn z85 := i_bn (by omega)
      refine g_istore5 dX3_nextSet_88 rfl rfl ?_
      refine g_goto (t := 113) dX3_nextSet_90 (by decide) ?_
      refine g_iload5 dX3_nextSet_113 rfl ?_
      refine g_if_neI (t := 120) dX3_nextSet_115 (by decide) rfl (fun c115 => ?_) (fun c115 => ?_)
      · -- 115 t
        refine g_iincI6 dX3_nextSet_120 rfl rfl rfl ⟨by omega, by omega⟩ (fun w120 h120 => ?_)
        refine g_goto (t := 31) dX3_nextSet_123 (by decide) ?_
        first
          | (obtain ⟨n1, n2⟩ := nx_step (v := bn s ||| bn w56) (by omega) hb2 (by rw [← e85]; omega) hno2; rw [← e85] at n1 n2; exact ih _ (by omega) _ _ _ _ rfl (by omega) (by omega) (by rw [e85]; exact stp_sub _ _) (by omega) n2)
          | (obtain ⟨n1, n2⟩ := nx_step (v := bn s) (by omega) hs (by rw [← e102]; omega) hno2; rw [← e102] at n1 n2; exact ih _ (by omega) _ _ _ _ rfl (by omega) (by omega) (by rw [e102]; exact stp_sub _ _) (by omega) n2)
      · -- 115 f
        refine g_iconstI dX3_nextSet_118 rfl rfl (fun w118 h118 => ?_)
        refine g_iret dX3_nextSet_119 rfl ?_
        first
          | (refine hQ _ ?_; rw [h118]; exact nx_done (by omega) hb2 (by rw [← e85]; omega) hno2)
          | (refine hQ _ ?_; rw [h118]; exact nx_done (by omega) hs (by rw [← e102]; omega) hno2)
    · -- 63 f
      refine g_iload7 dX3_nextSet_66 rfl ?_
      refine g_aload_n0 dX3_nextSet_68 rfl ?_
      refine g_iload8 dX3_nextSet_69 rfl ?_
      refine g_callVi1 dX3_nextSet_71 rfl vX3_80 hT.1 rfl (c_weightOf hT hB ⟨by omega, by omega⟩) (g_rm (by omega)) (Nat.le_of_ble_eq_true rfl) (fun z71 M71 e71 => ?_)
      obtain ⟨rfl, e71⟩ := e71
      rw [ebn] at e71
      refine g_iaddI dX3_nextSet_74 rfl ⟨by omega, by omega⟩ (fun w74 h74 => ?_)
      refine g_iload_n3 dX3_nextSet_75 rfl ?_
      refine g_icmp_geI (t := 93) dX3_nextSet_76 (by decide) rfl (fun c76 => ?_) (fun c76 => ?_)
      · -- 76 t
        refine g_iload7 dX3_nextSet_93 rfl ?_
        refine g_iload_n3 dX3_nextSet_95 rfl ?_
        refine g_icmp_geI (t := 110) dX3_nextSet_96 (by decide) rfl (fun c96 => ?_) (fun c96 => ?_)
        · -- 96 t
          refine g_iload5 dX3_nextSet_110 rfl ?_
          refine g_iret dX3_nextSet_112 rfl ?_
          refine hQ _ (Or.inr ⟨bn s, es, hs, has, ⟨by omega, by omega⟩, hno⟩)
        · -- 96 f
          refine g_iload_n1 dX3_nextSet_99 rfl ?_
          refine g_iload5 dX3_nextSet_100 rfl ?_
          have hno2 : ∀ u : Nat, sub u (bn f) → a.toInt < (u : Int) → u ≤ bn s → ¬ fitW _ t lo.toInt hi.toInt u := fun u hu ha hle => by
            by_cases h : u < bn s
            · exact hno u hu ha h
            · have hus : u = bn s := by omega
              rw [hus]
              rintro ⟨q1, q2⟩
              omega
          refine g_callSi2 dX3_nextSet_102 rfl sX3_104 (c_stepUp) (g_rm (by omega)) (Nat.le_of_ble_eq_true rfl) (fun z102 M102 e102 => ?_)
          obtain ⟨rfl, e102⟩ := e102
          have hlt5 := sub_le (stp_sub (bn f) (bn s))
          have hz : z102.toInt = bn z102 := i_bn (by omega)
          refine g_istore5 dX3_nextSet_105 rfl rfl ?_
          refine g_goto (t := 113) dX3_nextSet_107 (by decide) ?_
          refine g_iload5 dX3_nextSet_113 rfl ?_
          refine g_if_neI (t := 120) dX3_nextSet_115 (by decide) rfl (fun c115 => ?_) (fun c115 => ?_)
          · -- 115 t
            refine g_iincI6 dX3_nextSet_120 rfl rfl rfl ⟨by omega, by omega⟩ (fun w120 h120 => ?_)
            refine g_goto (t := 31) dX3_nextSet_123 (by decide) ?_
            first
              | (obtain ⟨n1, n2⟩ := nx_step (v := bn s ||| bn w56) (by omega) hb2 (by rw [← e85]; omega) hno2; rw [← e85] at n1 n2; exact ih _ (by omega) _ _ _ _ rfl (by omega) (by omega) (by rw [e85]; exact stp_sub _ _) (by omega) n2)
              | (obtain ⟨n1, n2⟩ := nx_step (v := bn s) (by omega) hs (by rw [← e102]; omega) hno2; rw [← e102] at n1 n2; exact ih _ (by omega) _ _ _ _ rfl (by omega) (by omega) (by rw [e102]; exact stp_sub _ _) (by omega) n2)
          · -- 115 f
            refine g_iconstI dX3_nextSet_118 rfl rfl (fun w118 h118 => ?_)
            refine g_iret dX3_nextSet_119 rfl ?_
            first
              | (refine hQ _ ?_; rw [h118]; exact nx_done (by omega) hb2 (by rw [← e85]; omega) hno2)
              | (refine hQ _ ?_; rw [h118]; exact nx_done (by omega) hs (by rw [← e102]; omega) hno2)
      · -- 76 f
        refine g_iload_n1 dX3_nextSet_79 rfl ?_
        refine g_iload5 dX3_nextSet_80 rfl ?_
        refine g_iload8 dX3_nextSet_82 rfl ?_
        refine g_iorB dX3_nextSet_84 rfl  (fun w84 h84 => ?_)
        have hno2 : ∀ u : Nat, sub u (bn f) → a.toInt < (u : Int) → u ≤ bn s ||| bn w56 → ¬ fitW _ t lo.toInt hi.toInt u := fun u hu ha hle => by
          by_cases h : u < bn s
          · exact hno u hu ha h
          · have hr := hb4 u hu (by omega) hle
            rintro ⟨q1, q2⟩
            omega
        refine g_callSi2 dX3_nextSet_85 rfl sX3_104 (c_stepUp) (g_rm (by omega)) (Nat.le_of_ble_eq_true rfl) (fun z85 M85 e85 => ?_)
        obtain ⟨rfl, e85⟩ := e85
        rw [h84] at e85
        have hlt5 := sub_le (stp_sub (bn f) (bn s ||| bn w56))
        have hz : z85.toInt = bn z85 := i_bn (by omega)
        refine g_istore5 dX3_nextSet_88 rfl rfl ?_
        refine g_goto (t := 113) dX3_nextSet_90 (by decide) ?_
        refine g_iload5 dX3_nextSet_113 rfl ?_
        refine g_if_neI (t := 120) dX3_nextSet_115 (by decide) rfl (fun c115 => ?_) (fun c115 => ?_)
        · -- 115 t
          refine g_iincI6 dX3_nextSet_120 rfl rfl rfl ⟨by omega, by omega⟩ (fun w120 h120 => ?_)
          refine g_goto (t := 31) dX3_nextSet_123 (by decide) ?_
          first
            | (obtain ⟨n1, n2⟩ := nx_step (v := bn s ||| bn w56) (by omega) hb2 (by rw [← e85]; omega) hno2; rw [← e85] at n1 n2; exact ih _ (by omega) _ _ _ _ rfl (by omega) (by omega) (by rw [e85]; exact stp_sub _ _) (by omega) n2)
            | (obtain ⟨n1, n2⟩ := nx_step (v := bn s) (by omega) hs (by rw [← e102]; omega) hno2; rw [← e102] at n1 n2; exact ih _ (by omega) _ _ _ _ rfl (by omega) (by omega) (by rw [e102]; exact stp_sub _ _) (by omega) n2)
        · -- 115 f
          refine g_iconstI dX3_nextSet_118 rfl rfl (fun w118 h118 => ?_)
          refine g_iret dX3_nextSet_119 rfl ?_
          first
            | (refine hQ _ ?_; rw [h118]; exact nx_done (by omega) hb2 (by rw [← e85]; omega) hno2)
            | (refine hQ _ ?_; rw [h118]; exact nx_done (by omega) hs (by rw [← e102]; omega) hno2)
set_option maxHeartbeats 4000000 in
theorem c_nextSet {Γ : gW} {t : Nat} {M : gM} (hT : g_Town Γ t) (hB : TB M t) {f a lo hi : Int32} (hf : 0 ≤ f.toInt ∧ f.toInt < 4096) (ha : a.toInt = -1 ∨ (0 ≤ a.toInt ∧ sub (bn a) (bn f))) : Ct Γ yX3_nextSet μX3_nextSet 1 [.ref t, .int f, .int a, .int lo, .int hi] M (g_qi (fun z M1 => M1 = M ∧ NX M t (bn f) a.toInt lo.toInt hi.toInt z.toInt)) := by
  have ef : (bn f : Int) = f.toInt := i_bn2 hf.1
  refine g_enter rfl rfl rfl (Nat.le_of_ble_eq_true rfl) ?_
  show G Γ _ _ _ _ 0 [some (.ref t), some (.int f), some (.int a), some (.int lo), some (.int hi), none, none, none, none] [] M
  refine g_iload_n2 dX3_nextSet_0 rfl ?_
  refine g_iconstI dX3_nextSet_1 rfl rfl (fun w1 h1 => ?_)
  refine g_icmp_neI (t := 9) dX3_nextSet_2 (by decide) rfl (fun c2 => ?_) (fun c2 => ?_)
  · -- 2 t
    refine g_iload_n1 dX3_nextSet_9 rfl ?_
    refine g_iload_n2 dX3_nextSet_10 rfl ?_
    have ha2 : 0 ≤ a.toInt ∧ sub (bn a) (bn f) := ha.resolve_left (by omega)
    have ea := i_bn2 ha2.1
    have hno2 : ∀ u : Nat, sub u (bn f) → a.toInt < (u : Int) → u ≤ bn a → ¬ fitW M t lo.toInt hi.toInt u := fun u hu ha hle => by omega
    refine g_callSi2 dX3_nextSet_11 rfl sX3_104 (c_stepUp) (g_rm (by omega)) (Nat.le_of_ble_eq_true rfl) (fun z11 M11 e11 => ?_)
    obtain ⟨rfl, e11⟩ := e11
    have hlt5 := sub_le (stp_sub (bn f) (bn a))
    have hz : z11.toInt = bn z11 := i_bn (by omega)
    refine g_istore5 dX3_nextSet_14 rfl rfl ?_
    refine g_iload5 dX3_nextSet_16 rfl ?_
    refine g_if_neI (t := 28) dX3_nextSet_18 (by decide) rfl (fun c18 => ?_) (fun c18 => ?_)
    · -- 18 t
      refine g_iconstI dX3_nextSet_28 rfl rfl (fun w28 h28 => ?_)
      refine g_istore6 dX3_nextSet_29 rfl rfl ?_
      first
        | (exfalso; omega)
        | (obtain ⟨n1, n2⟩ := nx_step (v := bn a) (by omega) ha2.2 (by rw [← e11]; omega) hno2; rw [← e11] at n1 n2; exact l_nextSet hT hB hf (fun z hz => ⟨_, rfl, rfl, hz⟩) _ _ _ _ _ rfl (by omega) (by omega) (by rw [e11]; exact stp_sub _ _) (by omega) n2)
        | (have b5 := bn_lit (n := 0) h5; exact l_nextSet hT hB hf (fun z hz => ⟨_, rfl, rfl, hz⟩) _ _ _ _ _ rfl (by omega) (by omega) (by rw [b5]; exact sub_zero _) (by omega) (fun u _ _ h => by omega))
    · -- 18 f
      refine g_iload_n2 dX3_nextSet_21 rfl ?_
      refine g_iconstI dX3_nextSet_22 rfl rfl (fun w22 h22 => ?_)
      refine g_icmp_eqI (t := 28) dX3_nextSet_23 (by decide) rfl (fun c23 => ?_) (fun c23 => ?_)
      · -- 23 t
        refine g_iconstI dX3_nextSet_28 rfl rfl (fun w28 h28 => ?_)
        refine g_istore6 dX3_nextSet_29 rfl rfl ?_
        first
          | (exfalso; omega)
          | (obtain ⟨n1, n2⟩ := nx_step (v := bn a) (by omega) ha2.2 (by rw [← e11]; omega) hno2; rw [← e11] at n1 n2; exact l_nextSet hT hB hf (fun z hz => ⟨_, rfl, rfl, hz⟩) _ _ _ _ _ rfl (by omega) (by omega) (by rw [e11]; exact stp_sub _ _) (by omega) n2)
          | (have b5 := bn_lit (n := 0) h5; exact l_nextSet hT hB hf (fun z hz => ⟨_, rfl, rfl, hz⟩) _ _ _ _ _ rfl (by omega) (by omega) (by rw [b5]; exact sub_zero _) (by omega) (fun u _ _ h => by omega))
      · -- 23 f
        refine g_iconstI dX3_nextSet_26 rfl rfl (fun w26 h26 => ?_)
        refine g_iret dX3_nextSet_27 rfl ?_
        refine ⟨_, rfl, rfl, ?_⟩
        first
          | (exfalso; omega)
          | (rw [h26]; exact nx_done (by omega) ha2.2 (by rw [← e11]; omega) hno2)
  · -- 2 f
    refine g_iconstI dX3_nextSet_5 rfl rfl (fun w5 h5 => ?_)
    refine g_goto (t := 14) dX3_nextSet_6 (by decide) ?_
    refine g_istore5 dX3_nextSet_14 rfl rfl ?_
    refine g_iload5 dX3_nextSet_16 rfl ?_
    refine g_if_neI (t := 28) dX3_nextSet_18 (by decide) rfl (fun c18 => ?_) (fun c18 => ?_)
    · -- 18 t
      refine g_iconstI dX3_nextSet_28 rfl rfl (fun w28 h28 => ?_)
      refine g_istore6 dX3_nextSet_29 rfl rfl ?_
      first
        | (exfalso; omega)
        | (obtain ⟨n1, n2⟩ := nx_step (v := bn a) (by omega) ha2.2 (by rw [← e11]; omega) hno2; rw [← e11] at n1 n2; exact l_nextSet hT hB hf (fun z hz => ⟨_, rfl, rfl, hz⟩) _ _ _ _ _ rfl (by omega) (by omega) (by rw [e11]; exact stp_sub _ _) (by omega) n2)
        | (have b5 := bn_lit (n := 0) h5; exact l_nextSet hT hB hf (fun z hz => ⟨_, rfl, rfl, hz⟩) _ _ _ _ _ rfl (by omega) (by omega) (by rw [b5]; exact sub_zero _) (by omega) (fun u _ _ h => by omega))
    · -- 18 f
      refine g_iload_n2 dX3_nextSet_21 rfl ?_
      refine g_iconstI dX3_nextSet_22 rfl rfl (fun w22 h22 => ?_)
      refine g_icmp_eqI (t := 28) dX3_nextSet_23 (by decide) rfl (fun c23 => ?_) (fun c23 => ?_)
      · -- 23 t
        refine g_iconstI dX3_nextSet_28 rfl rfl (fun w28 h28 => ?_)
        refine g_istore6 dX3_nextSet_29 rfl rfl ?_
        first
          | (exfalso; omega)
          | (obtain ⟨n1, n2⟩ := nx_step (v := bn a) (by omega) ha2.2 (by rw [← e11]; omega) hno2; rw [← e11] at n1 n2; exact l_nextSet hT hB hf (fun z hz => ⟨_, rfl, rfl, hz⟩) _ _ _ _ _ rfl (by omega) (by omega) (by rw [e11]; exact stp_sub _ _) (by omega) n2)
          | (have b5 := bn_lit (n := 0) h5; exact l_nextSet hT hB hf (fun z hz => ⟨_, rfl, rfl, hz⟩) _ _ _ _ _ rfl (by omega) (by omega) (by rw [b5]; exact sub_zero _) (by omega) (fun u _ _ h => by omega))
      · -- 23 f
        refine g_iconstI dX3_nextSet_26 rfl rfl (fun w26 h26 => ?_)
        refine g_iret dX3_nextSet_27 rfl ?_
        refine ⟨_, rfl, rfl, ?_⟩
        first
          | (exfalso; omega)
          | (rw [h26]; exact nx_done (by omega) ha2.2 (by rw [← e11]; omega) hno2)
