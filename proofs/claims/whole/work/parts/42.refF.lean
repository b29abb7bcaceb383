set_option maxHeartbeats 1200000 in
theorem l_anyFits {Γ : gW} {M : gM} {T : gTw} (hR : g_Ref Γ) (hO : TOK T) (hS : RS T M) {p : Int32} (hp : 0 ≤ p.toInt ∧ p.toInt < T 0 0) {Q : Option Value → gM → Prop} (hQ : ∀ z : Int32, (z.toInt = 0 ∨ z.toInt = 1) → (z.toInt = 1 ↔ ∃ u, fitT T p.toInt.toNat u) → Q (some (.int z)) M) : ∀ (n9 : Nat) (s : Int32), ((2 : Int) ^ (T 0 1).toNat - s.toInt).toNat = n9 → 0 ≤ s.toInt → s.toInt ≤ (2 : Int) ^ (T 0 1).toNat → (∀ u : Nat, (u : Int) < s.toInt → ¬ fitT T p.toInt.toNat u) → G Γ μX6_anyFits (g_R 3) (0, 0) (g_Z Γ Q) 2 [some (.ref 300), some (.int p), some (.int s)] [] M := by
  intro n9
  induction n9 using Nat.strongRecOn with
  | ind n9 ih =>
    intro s hn hs0 hs1 hno
    obtain ⟨hC, hW, hA, hDy, hWe⟩ := id hS
    obtain ⟨o_pe, o_th, o_la, o_wi, o_da, o_we, o_p, o_i⟩ := id hO
    obtain ⟨r_0, r_1, r_2, r_3, r_p, r_i⟩ := id hC
    have ep : ((2 ^ (T 0 1).toNat : Nat) : Int) = (2 : Int) ^ (T 0 1).toNat := by simp
    have hp12 : 2 ^ (T 0 1).toNat ≤ 2 ^ 12 := Nat.pow_le_pow_right (by decide) (by omega)
    have hp12e : (2 : Nat) ^ 12 = 4096 := rfl
    refine g_iload_n2 dX6_anyFits_2 rfl ?_
    refine g_iconstI dX6_anyFits_3 rfl rfl (fun w3 h3 => ?_)
    refine g_aload_n0 dX6_anyFits_4 rfl ?_
    refine g_getr dX6_anyFits_5 rfl fX6_25 hR.1 rfl ?_
    refine g_iconstI dX6_anyFits_8 rfl rfl (fun w8 h8 => ?_)
    refine g_ialdI dX6_anyFits_9 rfl (rf_told hR) ⟨by omega, by omega⟩ ?_
    have et9 : w8.toInt.toNat = 1 := by omega
    rw [et9]
    clear et9
    refine g_ishlB dX6_anyFits_10 rfl ⟨by omega, by omega⟩ (fun w10 h10 => ?_)
    have hpw : 2 ^ (M.1 402 1).toInt.toNat < 4294967296 := by rw [r_1]; omega
    rw [bn_lit (n := 1) h3, Nat.shiftLeft_eq, Nat.one_mul, Nat.mod_eq_of_lt hpw, r_1] at h10
    have e10 : w10.toInt = (2 : Int) ^ (T 0 1).toNat := by rw [i_bn (by omega), h10, ep]
    refine g_icmp_geI (t := 35) dX6_anyFits_11 (by decide) rfl (fun c11 => ?_) (fun c11 => ?_)
    · -- 11 t
      refine g_iconstI dX6_anyFits_35 rfl rfl (fun w35 h35 => ?_)
      refine g_zretI dX6_anyFits_36 rfl (by omega) ?_
      refine hQ _ (by omega) ⟨fun h => by omega, fun h => ?_⟩
      obtain ⟨u, hu⟩ := h
      have h2 : hasT T p.toInt.toNat < 2 ^ (T 0 1).toNat := by rw [← RW.has hA (p := p.toInt.toNat) (by omega)]; exact gat_lt _ _
      have h3 := sub_le hu.2.1
      exact absurd hu (hno u (by omega))
    · -- 11 f
      refine g_aload_n0 dX6_anyFits_14 rfl ?_
      refine g_aload_n0 dX6_anyFits_15 rfl ?_
      refine g_getr dX6_anyFits_16 rfl fX6_41 hR.1 rfl ?_
      refine g_iload_n1 dX6_anyFits_19 rfl ?_
      refine g_iload_n2 dX6_anyFits_20 rfl ?_
      refine g_callVi3 dX6_anyFits_21 rfl vX6_301 hR.1 rfl (r_fits hR hO hC hW (rf_now hR) hA hp ⟨hs0, by omega⟩) (g_rm (by omega)) (Nat.le_of_ble_eq_true rfl) (fun z21 M21 e21 => ?_)
      obtain ⟨rfl, e21, f21⟩ := e21
      refine g_if_eqI (t := 29) dX6_anyFits_24 (by decide) rfl (fun c24 => ?_) (fun c24 => ?_)
      · -- 24 t
        refine g_iincI2 dX6_anyFits_29 rfl rfl rfl ⟨by omega, by omega⟩ (fun w29 h29 => ?_)
        refine g_goto (t := 2) dX6_anyFits_32 (by decide) ?_
        refine ih _ (by omega) _ rfl (by omega) (by omega) (fun u hu => ?_)
        by_cases h : (u : Int) < s.toInt
        · exact hno u h
        · have hus : u = s.toInt.toNat := by omega
          rw [hus]
          intro hf
          have := f21.mpr hf
          omega
      · -- 24 f
        refine g_iconstI dX6_anyFits_27 rfl rfl (fun w27 h27 => ?_)
        refine g_zretI dX6_anyFits_28 rfl (by omega) ?_
        exact hQ _ (by omega) ⟨fun _ => ⟨_, f21.mp (by omega)⟩, fun _ => by omega⟩
set_option maxHeartbeats 1200000 in
theorem r_anyFits {Γ : gW} {M : gM} {T : gTw} (hR : g_Ref Γ) (hO : TOK T) (hS : RS T M) {p : Int32} (hp : 0 ≤ p.toInt ∧ p.toInt < T 0 0)  : Ct Γ yX6_anyFits μX6_anyFits 3 [.ref 300, .int p] M (g_qi (fun z M1 => M1 = M ∧ (z.toInt = 0 ∨ z.toInt = 1) ∧ (z.toInt = 1 ↔ ∃ u, fitT T p.toInt.toNat u))) := by
  have hpos := two_pos (T 0 1).toNat
  refine g_enter rfl rfl rfl (Nat.le_of_ble_eq_true rfl) ?_
  show G Γ _ _ _ _ 0 [some (.ref 300), some (.int p), none] [] M
  refine g_iconstI dX6_anyFits_0 rfl rfl (fun w0 h0 => ?_)
  refine g_istore_n2 dX6_anyFits_1 rfl rfl ?_
  exact l_anyFits hR hO hS hp (fun z h1 h2 => ⟨_, rfl, rfl, h1, h2⟩) _ _ rfl (by omega) (by omega) (fun u hu => by omega)
