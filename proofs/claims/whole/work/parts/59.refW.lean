/-- nobody waits, nothing dries -/
def quiet (T : gTw) : Prop := (∀ p : Nat, (p : Int) < T 0 0 → ¬ (0 < T 4 p ∧ waitsT T p)) ∧ ∀ i : Nat, (i : Int) < T 0 1 → ¬ ((T 0 5).toNat.testBit i = true ∧ 1 < T 7 i)
/-- a day's gifts, the first p people asked -/
def psP (T0 : gTw) : Nat → gTw → Prop → Prop
  | 0, T, b => T = T0 ∧ (b ↔ False)
  | p + 1, T', b' => ∃ (T : gTw) (b : Prop), psP T0 p T b ∧ ((chosenT T p (-1) ∧ T' = T ∧ (b' ↔ b)) ∨ ∃ n : Nat, chosenT T p (n : Int) ∧ T' = choT T p n ∧ (b' ↔ True))
def dayT (T : gTw) : gTw := upT (dryT T) 0 4 (T 0 4 + 1)
def stP (T0 : gTw) : Nat → gTw → Prop
  | 0, T => T = T0
  | k + 1, T' => ∃ (T T1 : gTw) (b : Prop), stP T0 k T ∧ psP T (T 0 0).toNat T1 b ∧ ¬ (¬ b ∧ quiet T1) ∧ T' = dayT T1
theorem psP_inv {T0 : gTw} (h0 : INV T0) : ∀ (p : Nat) (T : gTw) (b : Prop), (p : Int) ≤ T0 0 0 → psP T0 p T b → INV T ∧ (∀ f i, f ≠ 3 → f ≠ 4 → f ≠ 5 → f ≠ 6 → T f i = T0 f i) := by
  intro p
  induction p with
  | zero => rintro T b - ⟨rfl, -⟩; exact ⟨h0, fun _ _ _ _ _ _ => rfl⟩
  | succ p ih =>
    rintro T' b' hp ⟨T, b, h1, h2⟩
    obtain ⟨i1, i2⟩ := ih T b (by omega) h1
    rcases h2 with ⟨-, rfl, -⟩ | ⟨n, h3, rfl, -⟩
    · exact ⟨i1, i2⟩
    · have e00 := i2 0 0 (by decide) (by decide) (by decide) (by decide)
      refine ⟨INV.cho i1 (by omega) h3, fun f i a b c d => ?_⟩
      rw [choT, gift_o ⟨a, b, c, d⟩]; exact i2 f i a b c d
theorem dryT_sum {T : gTw} : sumT (dryT T) = sumT T := rfl
theorem INV.day {T : gTw} (h : INV T) (hd : T 0 4 < 100000) : INV (dayT T) := by
  obtain ⟨h1, h2, h3⟩ := h
  have hd2 := TOK.dry h1
  obtain ⟨o1, o2, o3, o4, o5, o6, o7, o8⟩ := hd2
  have o5' := h1.2.2.2.2.1
  have e : ∀ f i, ¬ (f = 0 ∧ i = 4) → dayT T f i = dryT T f i := fun f i h => upT_ne h
  have e4 : dayT T 0 4 = T 0 4 + 1 := upT_eq
  refine ⟨⟨?_, ?_, ?_, ?_, ?_, ?_, fun p hp => ?_, fun i hi => ?_⟩, ?_, ?_⟩
  · rw [e _ _ (by omega)]; exact o1
  · rw [e _ _ (by omega)]; exact o2
  · rw [e _ _ (by omega)]; exact o3
  · rw [e _ _ (by omega)]; exact o4
  · rw [e4]; omega
  · rw [e _ _ (by omega)]; exact o6
  · rw [e _ _ (by omega), e _ _ (by omega), e _ _ (by omega), e _ _ (by omega), e _ _ (by omega), e _ _ (by omega)]; exact o7 p hp
  · rw [e _ _ (by omega), e _ _ (by omega)]; exact o8 i hi
  · have : sumT (dayT T) = sumT T := by
      rw [sumT, sumT, e _ _ (by omega)]
      have h3 : dayT T 3 = T 3 := funext fun i => by rw [e _ _ (by omega)]; rfl
      rw [h3]; rfl
    rw [this]; exact h2
  · intro q hq hne
    rw [e _ _ (by omega)] at hq hne ⊢
    rw [e _ _ (by omega)]
    exact h3 q hq hne
set_option maxHeartbeats 1200000 in
theorem l_isStill2 {Γ : gW} {M : gM} {T : gTw} (hR : g_Ref Γ) (hO : TOK T) (hC : CR T M) (hW : WR T M) (hWe : ∀ i : Nat, (i : Int) < T 0 1 → (M.1 411 i).toInt = if (T 0 5).toNat.testBit i then 1 else 0) {a : Nat} (ha : g_o Γ a (.inr (1, 30))) (hA : RW T (M.1 a)) {d : Int32} (hd : d.toInt = T 0 4) (hq1 : ∀ p : Nat, (p : Int) < T 0 0 → ¬ (0 < T 4 p ∧ waitsT T p)) {Q : Option Value → gM → Prop} (hQ : ∀ z : Int32, (z.toInt = 0 ∨ z.toInt = 1) → (z.toInt = 1 ↔ quiet T) → Q (some (.int z)) M) : ∀ (n9 : Nat) (i : Int32), (T 0 1).toNat - i.toInt.toNat = n9 → 0 ≤ i.toInt → i.toInt ≤ T 0 1 → (∀ k : Nat, (k : Int) < i.toInt → ¬ ((T 0 5).toNat.testBit k = true ∧ 1 < T 7 k)) → G Γ μX6_isStill (g_R 0) (0, 0) (g_Z Γ Q) 51 [some (.ref 300), some (.ref a), some (.int d), some (.int i)] [] M := by
  intro n9
  induction n9 using Nat.strongRecOn with
  | ind n9 ih =>
    intro i h9 hi0 hi1 hno
    obtain ⟨o_pe, o_th, o_la, o_wi, o_da, o_we, o_p, o_i⟩ := id hO
    obtain ⟨r_0, r_1, r_2, r_3, r_p, r_i⟩ := id hC
    clear o_p o_i r_p r_i o_la o_da o_we
    refine g_iload_n3 dX6_isStill_51 rfl ?_
    refine g_aload_n0 dX6_isStill_52 rfl ?_
    refine g_getr dX6_isStill_53 rfl fX6_25 hR.1 rfl ?_
    refine g_iconstI dX6_isStill_56 rfl rfl (fun w56 h56 => ?_)
    refine g_ialdI dX6_isStill_57 rfl (rf_told hR) ⟨by omega, by omega⟩ ?_
    have et57 : w56.toInt.toNat = 1 := by omega
    rw [et57]
    clear et57
    refine g_icmp_geI (t := 88) dX6_isStill_58 (by decide) rfl (fun c58 => ?_) (fun c58 => ?_)
    · -- 58 t
      refine g_iconstI dX6_isStill_88 rfl rfl (fun w88 h88 => ?_)
      refine g_zretI dX6_isStill_89 rfl (by omega) ?_
      refine hQ _ (by omega) ⟨fun _ => ⟨hq1, fun k hk => hno k (by omega)⟩, fun _ => by omega⟩
    · -- 58 f
      refine g_aload_n0 dX6_isStill_61 rfl ?_
      refine g_getr dX6_isStill_62 rfl fX6_53 hR.1 rfl ?_
      refine g_iload_n3 dX6_isStill_65 rfl ?_
      refine g_zaldI dX6_isStill_66 rfl (rf_isWet hR) ⟨by omega, by omega⟩ ?_
      have qw := hWe i.toInt.toNat (by omega)
      have q9 := hW i.toInt.toNat (by omega)
      refine g_if_eqI (t := 82) dX6_isStill_67 (by decide) rfl (fun c67 => ?_) (fun c67 => ?_)
      · -- 67 t
        have hnb : ¬ (T 0 5).toNat.testBit i.toInt.toNat = true := fun hb => by rw [if_pos hb] at qw; omega
        clear qw
        refine g_iincI3 dX6_isStill_82 rfl rfl rfl ⟨by omega, by omega⟩ (fun w82 h82 => ?_)
        refine g_goto (t := 51) dX6_isStill_85 (by decide) ?_
        refine ih _ (by omega) _ rfl (by omega) (by omega) (fun k hk => ?_)
        by_cases hki : (k : Int) < i.toInt
        · exact hno k hki
        · have hkk : k = i.toInt.toNat := by omega
          rw [hkk]
          rintro ⟨a1, a2⟩
          first
            | exact hnb a1
            | omega
      · -- 67 f
        have hyb : (T 0 5).toNat.testBit i.toInt.toNat = true := by
          by_cases hb : (T 0 5).toNat.testBit i.toInt.toNat = true
          · exact hb
          · rw [if_neg hb] at qw; omega
        clear qw
        refine g_aload_n0 dX6_isStill_70 rfl ?_
        refine g_getr dX6_isStill_71 rfl fX6_47 hR.1 rfl ?_
        refine g_iload_n3 dX6_isStill_74 rfl ?_
        refine g_ialdI dX6_isStill_75 rfl (rf_weight hR) ⟨by omega, by omega⟩ ?_
        refine g_iconstI dX6_isStill_76 rfl rfl (fun w76 h76 => ?_)
        refine g_icmp_leI (t := 82) dX6_isStill_77 (by decide) rfl (fun c77 => ?_) (fun c77 => ?_)
        · -- 77 t
          refine g_iincI3 dX6_isStill_82 rfl rfl rfl ⟨by omega, by omega⟩ (fun w82 h82 => ?_)
          refine g_goto (t := 51) dX6_isStill_85 (by decide) ?_
          refine ih _ (by omega) _ rfl (by omega) (by omega) (fun k hk => ?_)
          by_cases hki : (k : Int) < i.toInt
          · exact hno k hki
          · have hkk : k = i.toInt.toNat := by omega
            rw [hkk]
            rintro ⟨a1, a2⟩
            first
              | exact hnb a1
              | omega
        · -- 77 f
          refine g_iconstI dX6_isStill_80 rfl rfl (fun w80 h80 => ?_)
          refine g_zretI dX6_isStill_81 rfl (by omega) ?_
          refine hQ _ (by omega) ⟨fun h => by omega, fun h => absurd ⟨hyb, by omega⟩ (h.2 i.toInt.toNat (by omega))⟩
set_option maxHeartbeats 1200000 in
theorem l_isStill1 {Γ : gW} {M : gM} {T : gTw} (hR : g_Ref Γ) (hO : TOK T) (hC : CR T M) (hW : WR T M) (hWe : ∀ i : Nat, (i : Int) < T 0 1 → (M.1 411 i).toInt = if (T 0 5).toNat.testBit i then 1 else 0) {a : Nat} (ha : g_o Γ a (.inr (1, 30))) (hA : RW T (M.1 a)) {d : Int32} (hd : d.toInt = T 0 4) {Q : Option Value → gM → Prop} (hQ : ∀ z : Int32, (z.toInt = 0 ∨ z.toInt = 1) → (z.toInt = 1 ↔ quiet T) → Q (some (.int z)) M) : ∀ (n9 : Nat) (i : Int32), (T 0 0).toNat - i.toInt.toNat = n9 → 0 ≤ i.toInt → i.toInt ≤ T 0 0 → (∀ k : Nat, (k : Int) < i.toInt → ¬ (0 < T 4 k ∧ waitsT T k)) → G Γ μX6_isStill (g_R 0) (0, 0) (g_Z Γ Q) 2 [some (.ref 300), some (.ref a), some (.int d), some (.int i)] [] M := by
  intro n9
  induction n9 using Nat.strongRecOn with
  | ind n9 ih =>
    intro i h9 hi0 hi1 hno
    obtain ⟨o_pe, o_th, o_la, o_wi, o_da, o_we, o_p, o_i⟩ := id hO
    obtain ⟨r_0, r_1, r_2, r_3, r_p, r_i⟩ := id hC
    clear o_p o_i r_i o_la o_da o_we
    refine g_iload_n3 dX6_isStill_2 rfl ?_
    refine g_aload_n0 dX6_isStill_3 rfl ?_
    refine g_getr dX6_isStill_4 rfl fX6_25 hR.1 rfl ?_
    refine g_iconstI dX6_isStill_7 rfl rfl (fun w7 h7 => ?_)
    refine g_ialdI dX6_isStill_8 rfl (rf_told hR) ⟨by omega, by omega⟩ ?_
    have et8 : w7.toInt.toNat = 0 := by omega
    rw [et8]
    clear et8
    refine g_icmp_geI (t := 49) dX6_isStill_9 (by decide) rfl (fun c9 => ?_) (fun c9 => ?_)
    · -- 9 t
      refine g_iconstI dX6_isStill_49 rfl rfl (fun w49 h49 => ?_)
      refine g_istore_n3 dX6_isStill_50 rfl rfl ?_
      exact l_isStill2 hR hO hC hW hWe ha hA hd (fun k hk => hno k (by omega)) hQ _ _ rfl (by omega) (by omega) (fun k hk => by omega)
    · -- 9 f
      refine g_aload_n0 dX6_isStill_12 rfl ?_
      refine g_getr dX6_isStill_13 rfl fX6_29 hR.1 rfl ?_
      refine g_iload_n3 dX6_isStill_16 rfl ?_
      refine g_ialdI dX6_isStill_17 rfl (rf_kind hR) ⟨by omega, by omega⟩ ?_
      have rp := r_p i.toInt.toNat (by omega)
      have a_o := (hA.1 i.toInt.toNat (by omega)).2.1
      refine g_iconstI dX6_isStill_18 rfl rfl (fun w18 h18 => ?_)
      refine g_icmp_neI (t := 43) dX6_isStill_19 (by decide) rfl (fun c19 => ?_) (fun c19 => ?_)
      · -- 19 t
        refine g_iincI3 dX6_isStill_43 rfl rfl rfl ⟨by omega, by omega⟩ (fun w43 h43 => ?_)
        refine g_goto (t := 2) dX6_isStill_46 (by decide) ?_
        refine ih _ (by omega) _ rfl (by omega) (by omega) (fun k hk => ?_)
        by_cases hki : (k : Int) < i.toInt
        · exact hno k hki
        · have hkk : k = i.toInt.toNat := by omega
          rw [hkk]
          rintro ⟨a1, a2, a3⟩
          omega
      · -- 19 f
        refine g_iload_n2 dX6_isStill_22 rfl ?_
        refine g_aload_n0 dX6_isStill_23 rfl ?_
        refine g_getr dX6_isStill_24 rfl fX6_32 hR.1 rfl ?_
        refine g_iload_n3 dX6_isStill_27 rfl ?_
        refine g_ialdI dX6_isStill_28 rfl (rf_kindBy hR) ⟨by omega, by omega⟩ ?_
        refine g_icmp_geI (t := 43) dX6_isStill_29 (by decide) rfl (fun c29 => ?_) (fun c29 => ?_)
        · -- 29 t
          refine g_iincI3 dX6_isStill_43 rfl rfl rfl ⟨by omega, by omega⟩ (fun w43 h43 => ?_)
          refine g_goto (t := 2) dX6_isStill_46 (by decide) ?_
          refine ih _ (by omega) _ rfl (by omega) (by omega) (fun k hk => ?_)
          by_cases hki : (k : Int) < i.toInt
          · exact hno k hki
          · have hkk : k = i.toInt.toNat := by omega
            rw [hkk]
            rintro ⟨a1, a2, a3⟩
            omega
        · -- 29 f
          refine g_aload_n1 dX6_isStill_32 rfl ?_
          refine g_bipushI dX6_isStill_33 rfl rfl (fun w33 h33 => ?_)
          refine g_iload_n3 dX6_isStill_35 rfl ?_
          refine g_iaddI dX6_isStill_36 rfl ⟨by omega, by omega⟩ (fun w36 h36 => ?_)
          refine g_ialdI dX6_isStill_37 rfl ha ⟨by omega, by omega⟩ ?_
          rw [show w36.toInt.toNat = 18 + i.toInt.toNat by omega]
          refine g_if_leI (t := 43) dX6_isStill_38 (by decide) rfl (fun c38 => ?_) (fun c38 => ?_)
          · -- 38 t
            refine g_iincI3 dX6_isStill_43 rfl rfl rfl ⟨by omega, by omega⟩ (fun w43 h43 => ?_)
            refine g_goto (t := 2) dX6_isStill_46 (by decide) ?_
            refine ih _ (by omega) _ rfl (by omega) (by omega) (fun k hk => ?_)
            by_cases hki : (k : Int) < i.toInt
            · exact hno k hki
            · have hkk : k = i.toInt.toNat := by omega
              rw [hkk]
              rintro ⟨a1, a2, a3⟩
              omega
          · -- 38 f
            refine g_iconstI dX6_isStill_41 rfl rfl (fun w41 h41 => ?_)
            refine g_zretI dX6_isStill_42 rfl (by omega) ?_
            refine hQ _ (by omega) ⟨fun h => by omega, fun h => absurd ⟨by omega, by omega, by omega⟩ (h.1 i.toInt.toNat (by omega))⟩
set_option maxHeartbeats 1200000 in
theorem r_isStill {Γ : gW} {M : gM} {T : gTw} (hR : g_Ref Γ) (hO : TOK T) (hC : CR T M) (hW : WR T M) (hWe : ∀ i : Nat, (i : Int) < T 0 1 → (M.1 411 i).toInt = if (T 0 5).toNat.testBit i then 1 else 0) {a : Nat} (ha : g_o Γ a (.inr (1, 30))) (hA : RW T (M.1 a)) {d : Int32} (hd : d.toInt = T 0 4)  : Ct Γ yX6_isStill μX6_isStill 0 [.ref 300, .ref a, .int d] M (g_qi (fun z M1 => M1 = M ∧ (z.toInt = 0 ∨ z.toInt = 1) ∧ (z.toInt = 1 ↔ quiet T))) := by
  obtain ⟨o_pe, o_th, o_la, o_wi, o_da, o_we, o_p, o_i⟩ := id hO
  obtain ⟨r_0, r_1, r_2, r_3, r_p, r_i⟩ := id hC
  refine g_enter rfl rfl rfl (Nat.le_of_ble_eq_true rfl) ?_
  show G Γ _ _ _ _ 0 [some (.ref 300), some (.ref a), some (.int d), none] [] M
  refine g_iconstI dX6_isStill_0 rfl rfl (fun w0 h0 => ?_)
  refine g_istore_n3 dX6_isStill_1 rfl rfl ?_
  exact l_isStill1 hR hO hC hW hWe ha hA hd (fun z h1 h2 => ⟨_, rfl, rfl, h1, h2⟩) _ _ rfl (by omega) (by omega) (fun k hk => by omega)
