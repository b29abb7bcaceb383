set_option maxHeartbeats 1200000 in
theorem l_dryW {Γ : gW} {M0 : gM} {T : gTw} (hR : g_Ref Γ) (hO : TOK T) (hC : CR T M0) (hW : WR T M0) (hWe : ∀ i : Nat, (i : Int) < T 0 1 → (M0.1 411 i).toInt = if (T 0 5).toNat.testBit i then 1 else 0) {Q : Option Value → gM → Prop} (hQ : ∀ M : gM, wrI T M0 M (T 0 1).toNat → Q none M) : ∀ (n9 : Nat) (i : Int32) (M : gM), (T 0 1).toNat - i.toInt.toNat = n9 → 0 ≤ i.toInt → i.toInt ≤ T 0 1 → wrI T M0 M i.toInt.toNat → G Γ μX6_dry (g_R 0) (0, 0) (g_Z Γ Q) 2 [some (.ref 300), some (.int i)] [] M := by
  intro n9
  induction n9 using Nat.strongRecOn with
  | ind n9 ih =>
    intro i M hn hi0 hi1 hwr
    obtain ⟨o_pe, o_th, o_la, o_wi, o_da, o_we, o_p, o_i⟩ := id hO
    obtain ⟨r_0, r_1, r_2, r_3, r_p, r_i⟩ := id hC
    clear o_p r_p r_i
    have m402 := hwr.1 402 (by decide)
    have m411 := hwr.1 411 (by decide)
    refine g_iload_n1 dX6_dry_2 rfl ?_
    refine g_aload_n0 dX6_dry_3 rfl ?_
    refine g_getr dX6_dry_4 rfl fX6_25 hR.1 rfl ?_
    refine g_iconstI dX6_dry_7 rfl rfl (fun w7 h7 => ?_)
    refine g_ialdI dX6_dry_8 rfl (rf_told hR) ⟨by omega, by omega⟩ ?_
    have et8 : w7.toInt.toNat = 1 := by omega
    rw [et8, m402]
    clear et8
    refine g_icmp_geI (t := 47) dX6_dry_9 (by decide) rfl (fun c9 => ?_) (fun c9 => ?_)
    · -- 9 t
      refine g_vret dX6_dry_47 rfl ?_
      exact hQ M (by rw [show (T 0 1).toNat = i.toInt.toNat by omega]; exact hwr)
    · -- 9 f
      refine g_aload_n0 dX6_dry_12 rfl ?_
      refine g_getr dX6_dry_13 rfl fX6_53 hR.1 rfl ?_
      refine g_iload_n1 dX6_dry_16 rfl ?_
      refine g_zaldI dX6_dry_17 rfl (rf_isWet hR) ⟨by omega, by omega⟩ ?_
      rw [m411]
      have qw := hWe i.toInt.toNat (by omega)
      have q9 := hwr.2.2 i.toInt.toNat (by omega)
      rw [if_neg (by omega)] at q9
      have ob := (o_i i.toInt.toNat (by omega)).1
      refine g_if_eqI (t := 41) dX6_dry_18 (by decide) rfl (fun c18 => ?_) (fun c18 => ?_)
      · -- 18 t
        have hd : dryV T i.toInt.toNat = T 7 i.toInt.toNat := by
          rw [dryV, if_neg]
          rintro ⟨-, a, -⟩
          rw [if_pos a] at qw
          omega
        clear qw
        refine g_iincI1 dX6_dry_41 rfl rfl rfl ⟨by omega, by omega⟩ (fun w41 h41 => ?_)
        refine g_goto (t := 2) dX6_dry_44 (by decide) ?_
        first
          | (have hz := hd2; exact ih _ (by omega) _ _ rfl (by omega) (by omega) (by rw [h41, show (i.toInt + 1).toNat = i.toInt.toNat + 1 by omega]; exact wr_step hwr (by omega)))
          | exact ih _ (by omega) _ _ rfl (by omega) (by omega) (by rw [h41, show (i.toInt + 1).toNat = i.toInt.toNat + 1 by omega]; exact wr_skip hwr hd)
      · -- 18 f
        have htb : (T 0 5).toNat.testBit i.toInt.toNat = true := by
          by_cases hb : (T 0 5).toNat.testBit i.toInt.toNat = true
          · exact hb
          · rw [if_neg hb] at qw; omega
        clear qw
        refine g_aload_n0 dX6_dry_21 rfl ?_
        refine g_getr dX6_dry_22 rfl fX6_47 hR.1 rfl ?_
        refine g_iload_n1 dX6_dry_25 rfl ?_
        refine g_ialdI dX6_dry_26 rfl (rf_weight hR) ⟨by omega, by omega⟩ ?_
        refine g_iconstI dX6_dry_27 rfl rfl (fun w27 h27 => ?_)
        refine g_icmp_leI (t := 41) dX6_dry_28 (by decide) rfl (fun c28 => ?_) (fun c28 => ?_)
        · -- 28 t
          have hd : dryV T i.toInt.toNat = T 7 i.toInt.toNat := by
            rw [dryV, if_neg]
            rintro ⟨-, -, a⟩
            omega
          refine g_iincI1 dX6_dry_41 rfl rfl rfl ⟨by omega, by omega⟩ (fun w41 h41 => ?_)
          refine g_goto (t := 2) dX6_dry_44 (by decide) ?_
          first
            | (have hz := hd2; exact ih _ (by omega) _ _ rfl (by omega) (by omega) (by rw [h41, show (i.toInt + 1).toNat = i.toInt.toNat + 1 by omega]; exact wr_step hwr (by omega)))
            | exact ih _ (by omega) _ _ rfl (by omega) (by omega) (by rw [h41, show (i.toInt + 1).toNat = i.toInt.toNat + 1 by omega]; exact wr_skip hwr hd)
        · -- 28 f
          have hd2 : dryV T i.toInt.toNat = T 7 i.toInt.toNat - 1 := by
            rw [dryV, if_pos ⟨by omega, htb, by omega⟩]
          refine g_aload_n0 dX6_dry_31 rfl ?_
          refine g_getr dX6_dry_32 rfl fX6_47 hR.1 rfl ?_
          refine g_iload_n1 dX6_dry_35 rfl ?_
          refine g_dup2 dX6_dry_36 rfl rfl rfl ?_
          refine g_ialdI dX6_dry_37 rfl (rf_weight hR) ⟨by omega, by omega⟩ ?_
          refine g_iconstI dX6_dry_38 rfl rfl (fun w38 h38 => ?_)
          refine g_isubI dX6_dry_39 rfl ⟨by omega, by omega⟩ (fun w39 h39 => ?_)
          refine g_iastI dX6_dry_40 rfl (rf_weight hR) ⟨by omega, by omega⟩ ?_
          refine g_iincI1 dX6_dry_41 rfl rfl rfl ⟨by omega, by omega⟩ (fun w41 h41 => ?_)
          refine g_goto (t := 2) dX6_dry_44 (by decide) ?_
          first
            | (have hz := hd2; exact ih _ (by omega) _ _ rfl (by omega) (by omega) (by rw [h41, show (i.toInt + 1).toNat = i.toInt.toNat + 1 by omega]; exact wr_step hwr (by omega)))
            | exact ih _ (by omega) _ _ rfl (by omega) (by omega) (by rw [h41, show (i.toInt + 1).toNat = i.toInt.toNat + 1 by omega]; exact wr_skip hwr hd)
set_option maxHeartbeats 1200000 in
theorem r_dryW {Γ : gW} {M : gM} {T : gTw} (hR : g_Ref Γ) (hO : TOK T) (hC : CR T M) (hW : WR T M) (hWe : ∀ i : Nat, (i : Int) < T 0 1 → (M.1 411 i).toInt = if (T 0 5).toNat.testBit i then 1 else 0)  : Ct Γ yX6_dry μX6_dry 0 [.ref 300] M (g_qv (fun M1 => wrI T M M1 (T 0 1).toNat)) := by
  obtain ⟨o_pe, o_th, o_la, o_wi, o_da, o_we, o_p, o_i⟩ := id hO
  obtain ⟨r_0, r_1, r_2, r_3, r_p, r_i⟩ := id hC
  refine g_enter rfl rfl rfl (Nat.le_of_ble_eq_true rfl) ?_
  show G Γ _ _ _ _ 0 [some (.ref 300), none] [] M
  refine g_iconstI dX6_dry_0 rfl rfl (fun w0 h0 => ?_)
  refine g_istore_n1 dX6_dry_1 rfl rfl ?_
  exact l_dryW hR hO hC hW hWe (fun M1 h => ⟨rfl, h⟩) _ w0 M rfl (by omega) (by omega) ⟨fun _ _ => rfl, rfl, fun k hk => by rw [if_neg (by omega)]; exact hW k hk⟩
theorem CR.day {T : gTw} {M : gM} (h : CR T M) : CR (dayT T) M := h
theorem RW.day {T : gTw} {r : Nat → Int32} (h : RW T r) : RW (dayT T) r := h
set_option maxHeartbeats 1200000 in
theorem l_stillIn {Γ : gW} {M0 : gM} {T0 : gTw} (hR : g_Ref Γ) (hI : INV T0) (hC0 : CR T0 M0) (hW0 : WR T0 M0) {d : Int32} (hd : d.toInt = T0 0 4) {Q : Option Value → gM → Prop} (hk : ∀ (M : gM) (T : gTw) (sm i : Int32) (z4 : Option Value), fr 442 M0 M → RW T (M.1 442) → (sm.toInt = 0 ∨ sm.toInt = 1) → psP T0 (T0 0 0).toNat T (sm.toInt = 1) → G Γ μX6_stillFrom (g_R 5) (0, 0) (g_Z Γ Q) 109 [some (.ref 300), some (.int d), some (.int sm), some (.int i), z4] [] M) : ∀ (n9 : Nat) (sm i : Int32) (z4 : Option Value) (M : gM) (T : gTw), (T0 0 0).toNat - i.toInt.toNat = n9 → 0 ≤ i.toInt → i.toInt ≤ T0 0 0 → (sm.toInt = 0 ∨ sm.toInt = 1) → fr 442 M0 M → RW T (M.1 442) → psP T0 i.toInt.toNat T (sm.toInt = 1) → G Γ μX6_stillFrom (g_R 5) (0, 0) (g_Z Γ Q) 20 [some (.ref 300), some (.int d), some (.int sm), some (.int i), z4] [] M := by
  intro n9
  induction n9 using Nat.strongRecOn with
  | ind n9 ih =>
    intro sm i z4 M T h9 hi0 hi1 hsm hfr hA hps
    obtain ⟨hIT, hsame⟩ := psP_inv hI _ _ _ (by omega) hps
    have hO := hIT.1
    have o_pe := hO.1
    have o_th := hO.2.1
    have hC : CR T M := by
      have h := CR.fr hC0 hfr (by omega)
      unfold CR at h ⊢
      simp only [hsame 0 _ (by decide) (by decide) (by decide) (by decide), hsame 1 _ (by decide) (by decide) (by decide) (by decide), hsame 2 _ (by decide) (by decide) (by decide) (by decide), hsame 8 _ (by decide) (by decide) (by decide) (by decide)]
      exact h
    have hW : WR T M := by
      have h := WR.fr hW0 hfr (by omega)
      unfold WR at h ⊢
      simp only [hsame 0 _ (by decide) (by decide) (by decide) (by decide), hsame 7 _ (by decide) (by decide) (by decide) (by decide)]
      exact h
    have r_0 := hC.1
    have hdd : d.toInt = T 0 4 := by rw [hsame 0 4 (by decide) (by decide) (by decide) (by decide)]; exact hd
    have hT00 : T 0 0 = T0 0 0 := hsame 0 0 (by decide) (by decide) (by decide) (by decide)
    have ein : ((i.toInt.toNat : Nat) : Int) = i.toInt := by omega
    refine g_iload_n3 dX6_stillFrom_20 rfl ?_
    refine g_aload_n0 dX6_stillFrom_21 rfl ?_
    refine g_getr dX6_stillFrom_22 rfl fX6_25 hR.1 rfl ?_
    refine g_iconstI dX6_stillFrom_25 rfl rfl (fun w25 h25 => ?_)
    refine g_ialdI dX6_stillFrom_26 rfl (rf_told hR) ⟨by omega, by omega⟩ ?_
    have et26 : w25.toInt.toNat = 0 := by omega
    rw [et26]
    clear et26
    refine g_icmp_geI (t := 109) dX6_stillFrom_27 (by decide) rfl (fun c27 => ?_) (fun c27 => ?_)
    · -- 27 t
      exact hk M T _ _ _ hfr hA hsm (by rw [show (T0 0 0).toNat = i.toInt.toNat by omega]; exact hps)
    · -- 27 f
      have hip : 0 ≤ i.toInt ∧ i.toInt < T 0 0 := by omega
      obtain ⟨-, a_o, a_t, -⟩ := hA.1 i.toInt.toNat (by omega)
      refine g_aload_n0 dX6_stillFrom_30 rfl ?_
      refine g_aload_n0 dX6_stillFrom_31 rfl ?_
      refine g_getr dX6_stillFrom_32 rfl fX6_100 hR.1 rfl ?_
      refine g_iload_n3 dX6_stillFrom_35 rfl ?_
      refine g_iload_n1 dX6_stillFrom_36 rfl ?_
      refine g_callVi3 dX6_stillFrom_37 rfl vX6_311 hR.1 rfl (r_choiceOf hR hO hC hW (rf_row hR) hA hip hdd) (g_rm (by omega)) (Nat.le_of_ble_eq_true rfl) (fun z37 M37 e37 => ?_)
      obtain ⟨rfl, e37⟩ := e37
      refine g_istore4 dX6_stillFrom_40 rfl rfl ?_
      refine g_iload4 dX6_stillFrom_42 rfl ?_
      refine g_iconstI dX6_stillFrom_44 rfl rfl (fun w44 h44 => ?_)
      refine g_icmp_neI (t := 51) dX6_stillFrom_45 (by decide) rfl (fun c45 => ?_) (fun c45 => ?_)
      · -- 45 t
        obtain ⟨n, en, hsl, -⟩ := e37.resolve_left (fun h => by omega)
        have hch : chosenT T i.toInt.toNat (n : Int) := by rw [← en]; exact e37
        obtain ⟨hcan, ht0, ht1⟩ := chosenT_can hO (by omega) hch hIT.2.2
        have h2n : n < 2 ^ (T 0 1).toNat := by
          have h2 : hasT T i.toInt.toNat < 2 ^ (T 0 1).toNat := by rw [← RW.has hA (p := i.toInt.toNat) (by omega)]; exact gat_lt _ _
          have := sub_le hsl.1.2.1
          omega
        have enn : z37.toInt.toNat = n := by omega
        have ep2 : ((2 ^ (T 0 1).toNat : Nat) : Int) = (2 : Int) ^ (T 0 1).toNat := by simp
        have hsr : 0 ≤ sandT T i.toInt.toNat n ∧ sandT T i.toInt.toNat n ≤ 2000 := by
          have h1 := lgtT_rng (p := i.toInt.toNat) hO (by omega)
          have h2 := wtT_rng (s := n) hO
          rw [sandT]; split <;> omega
        clear e37
        refine g_aload_n0 dX6_stillFrom_51 rfl ?_
        refine g_aload_n0 dX6_stillFrom_52 rfl ?_
        refine g_getr dX6_stillFrom_53 rfl fX6_100 hR.1 rfl ?_
        refine g_iload_n3 dX6_stillFrom_56 rfl ?_
        refine g_iload4 dX6_stillFrom_57 rfl ?_
        refine g_aload_n0 dX6_stillFrom_59 rfl ?_
        refine g_aload_n0 dX6_stillFrom_60 rfl ?_
        refine g_getr dX6_stillFrom_61 rfl fX6_100 hR.1 rfl ?_
        refine g_iload_n3 dX6_stillFrom_64 rfl ?_
        refine g_iload4 dX6_stillFrom_65 rfl ?_
        refine g_aload_n0 dX6_stillFrom_67 rfl ?_
        refine g_getr dX6_stillFrom_68 rfl fX6_100 hR.1 rfl ?_
        refine g_bipushI dX6_stillFrom_71 rfl rfl (fun w71 h71 => ?_)
        refine g_iload_n3 dX6_stillFrom_73 rfl ?_
        refine g_iaddI dX6_stillFrom_74 rfl ⟨by omega, by omega⟩ (fun w74 h74 => ?_)
        refine g_ialdI dX6_stillFrom_75 rfl (rf_row hR) ⟨by omega, by omega⟩ ?_
        rw [show w74.toInt.toNat = 18 + i.toInt.toNat by omega]
        refine g_callVi4 dX6_stillFrom_76 rfl vX6_297 hR.1 rfl (r_sandFor hR hO hC hW (rf_row hR) hA hip ⟨by omega, by omega⟩ a_o) (g_rm (by omega)) (Nat.le_of_ble_eq_true rfl) (fun z76 M76 e76 => ?_)
        obtain ⟨rfl, e76⟩ := e76
        rw [enn] at e76
        replace e76 : z76.toInt = sandT T i.toInt.toNat n := e76.elim (fun h => h.2) (fun h => absurd hsl.1 h.1)
        refine g_aload_n0 dX6_stillFrom_79 rfl ?_
        refine g_aload_n0 dX6_stillFrom_80 rfl ?_
        refine g_getr dX6_stillFrom_81 rfl fX6_100 hR.1 rfl ?_
        refine g_iload_n3 dX6_stillFrom_84 rfl ?_
        refine g_aload_n0 dX6_stillFrom_85 rfl ?_
        refine g_getr dX6_stillFrom_86 rfl fX6_100 hR.1 rfl ?_
        refine g_bipushI dX6_stillFrom_89 rfl rfl (fun w89 h89 => ?_)
        refine g_iload_n3 dX6_stillFrom_91 rfl ?_
        refine g_iaddI dX6_stillFrom_92 rfl ⟨by omega, by omega⟩ (fun w92 h92 => ?_)
        refine g_ialdI dX6_stillFrom_93 rfl (rf_row hR) ⟨by omega, by omega⟩ ?_
        rw [show w92.toInt.toNat = 24 + i.toInt.toNat by omega]
        refine g_callVi3 dX6_stillFrom_94 rfl vX6_315 hR.1 rfl (r_whomOf hR hO hC (rf_row hR) hA hip a_t) (g_rm (by omega)) (Nat.le_of_ble_eq_true rfl) (fun z94 M94 e94 => ?_)
        obtain ⟨rfl, e94⟩ := e94
        refine g_callVi5 dX6_stillFrom_97 rfl vX6_285 hR.1 rfl (r_make hR hO hC hW (rf_row hR) ⟨by omega, by omega⟩ ⟨by omega, by omega⟩ ⟨by omega, by omega⟩ ⟨by omega, by omega⟩) (g_rm (by omega)) (Nat.le_of_ble_eq_true rfl) (fun z97 M97 e97 => ?_)
        obtain ⟨ev, e97⟩ := e97
        rw [enn] at ev e97
        have hetk : z94.toInt.toNat = (takerT T i.toInt.toNat).toNat := by rw [e94]
        rw [hetk] at e97
        have hA2 : RW (choT T i.toInt.toNat n) (M97.1 442) := by
          rw [e97, g_row_at, choT, ← e76]
          exact RW.gift hO hA (by rw [e76]; exact hcan) hIT.2.1 ev (by rw [e94]; omega) ein.symm
        have hfr2 : fr 442 M94 M97 := ⟨fun j hj => by rw [e97, g_row_ne hj], by rw [e97]; rfl⟩
        have hfr3 : fr 442 M0 M97 := ⟨fun j hj => by rw [hfr2.1 j hj]; exact hfr.1 j hj, by rw [hfr2.2]; exact hfr.2⟩
        clear e97 ev
        refine g_pop dX6_stillFrom_100 rfl rfl ?_
        refine g_iconstI dX6_stillFrom_101 rfl rfl (fun w101 h101 => ?_)
        refine g_istore_n2 dX6_stillFrom_102 rfl rfl ?_
        refine g_iincI3 dX6_stillFrom_103 rfl rfl rfl ⟨by omega, by omega⟩ (fun w103 h103 => ?_)
        refine g_goto (t := 20) dX6_stillFrom_106 (by decide) ?_
        have e1 : w103.toInt.toNat = i.toInt.toNat + 1 := by omega
        first
          | (have hz := hnone; exact ih _ (by omega) _ _ _ _ T rfl (by omega) (by omega) hsm hfr hA (by rw [e1]; exact ⟨T, _, hps, Or.inl ⟨hz, rfl, Iff.rfl⟩⟩))
          | (have hz := h101; exact ih _ (by omega) _ _ _ _ (choT T i.toInt.toNat n) rfl (by omega) (by omega) (Or.inr hz) hfr3 hA2 (by rw [e1]; exact ⟨T, _, hps, Or.inr ⟨n, hch, rfl, ⟨fun _ => trivial, fun _ => hz⟩⟩⟩))
      · -- 45 f
        have hnone : chosenT T i.toInt.toNat (-1) := by rw [← show z37.toInt = -1 by omega]; exact e37
        refine g_goto (t := 103) dX6_stillFrom_48 (by decide) ?_
        refine g_iincI3 dX6_stillFrom_103 rfl rfl rfl ⟨by omega, by omega⟩ (fun w103 h103 => ?_)
        refine g_goto (t := 20) dX6_stillFrom_106 (by decide) ?_
        have e1 : w103.toInt.toNat = i.toInt.toNat + 1 := by omega
        first
          | (have hz := hnone; exact ih _ (by omega) _ _ _ _ T rfl (by omega) (by omega) hsm hfr hA (by rw [e1]; exact ⟨T, _, hps, Or.inl ⟨hz, rfl, Iff.rfl⟩⟩))
          | (have hz := h101; exact ih _ (by omega) _ _ _ _ (choT T i.toInt.toNat n) rfl (by omega) (by omega) (Or.inr hz) hfr3 hA2 (by rw [e1]; exact ⟨T, _, hps, Or.inr ⟨n, hch, rfl, ⟨fun _ => trivial, fun _ => hz⟩⟩⟩))
