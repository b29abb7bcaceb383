set_option maxHeartbeats 1200000 in
theorem r_gift {Γ : gW} {M : gM} (hR : g_Ref Γ) (hg : 0 ≤ (M.1 300 24).toInt ∧ (M.1 300 24).toInt ≤ 200) {i w : Int32} : Ct Γ yX6_gift μX6_gift 1 [.ref 300, .int i, .int w] M (g_qi (fun z M1 => (¬ (0 ≤ i.toInt ∧ i.toInt < (M.1 300 24).toInt ∧ 0 ≤ w.toInt ∧ w.toInt ≤ 4) ∧ z.toInt = 0 ∧ M1 = g_u (g_u M 300 1 0) 300 1 1) ∨ ((0 ≤ i.toInt ∧ i.toInt < (M.1 300 24).toInt ∧ 0 ≤ w.toInt ∧ w.toInt ≤ 4) ∧ M1 = g_u M 300 1 0 ∧ z = M.1 425 (9 * i.toInt.toNat + w.toInt.toNat)))) := by
  refine g_enter rfl rfl rfl (Nat.le_of_ble_eq_true rfl) ?_
  show G Γ _ _ _ _ 0 [some (.ref 300), some (.int i), some (.int w)] [] M
  refine g_aload_n0 dX6_gift_0 rfl ?_
  refine g_iconst (v := 0) dX6_gift_1 rfl rfl ?_
  refine g_put dX6_gift_2 rfl fX6_128 hR.1 rfl rfl rfl ?_
  refine g_iload_n1 dX6_gift_5 rfl ?_
  refine g_iconstI dX6_gift_6 rfl rfl (fun w6 h6 => ?_)
  refine g_aload_n0 dX6_gift_7 rfl ?_
  refine g_geti dX6_gift_8 rfl fX6_256 hR.1 rfl ?_
  rw [g_u_eq, if_neg (show ¬ (24 : Nat) = 1 by decide)]
  refine g_iconstI dX6_gift_11 rfl rfl (fun w11 h11 => ?_)
  refine g_isubI dX6_gift_12 rfl ⟨by omega, by omega⟩ (fun w12 h12 => ?_)
  refine g_callSi3 dX6_gift_13 rfl sX6_131 (r_isIn) (g_rm (by omega)) (Nat.le_of_ble_eq_true rfl) (fun z13 M13 e13 => ?_)
  obtain ⟨e13a, e13, f13⟩ := e13
  subst e13a
  refine g_if_eqI (t := 42) dX6_gift_16 (by decide) rfl (fun c16 => ?_) (fun c16 => ?_)
  · -- 16 t
    have qf13 : ¬ (0 ≤ i.toInt ∧ i.toInt ≤ (M.1 300 24).toInt - 1) := fun h => by have := f13.mpr (by omega); omega
    clear f13 e13
    refine g_aload_n0 dX6_gift_42 rfl ?_
    refine g_iconst (v := 1) dX6_gift_43 rfl rfl ?_
    refine g_callVi1 dX6_gift_44 rfl vX6_243 hR.1 rfl (r_fail hR) (g_rm (by omega)) (Nat.le_of_ble_eq_true rfl) (fun z44 M44 e44 => ?_)
    obtain ⟨e44a, e44⟩ := e44
    subst e44a
    refine g_iret dX6_gift_47 rfl ?_
    first
      | (have hz := e44; exact ⟨_, rfl, Or.inl ⟨by omega, hz, rfl⟩⟩)
      | exact ⟨_, rfl, Or.inr ⟨by omega, rfl, rfl⟩⟩
  · -- 16 f
    have qf13 : 0 ≤ i.toInt ∧ i.toInt ≤ (M.1 300 24).toInt - 1 := by have := f13.mp (by omega); omega
    clear f13 e13
    refine g_iload_n2 dX6_gift_19 rfl ?_
    refine g_iconstI dX6_gift_20 rfl rfl (fun w20 h20 => ?_)
    refine g_iconstI dX6_gift_21 rfl rfl (fun w21 h21 => ?_)
    refine g_callSi3 dX6_gift_22 rfl sX6_131 (r_isIn) (g_rm (by omega)) (Nat.le_of_ble_eq_true rfl) (fun z22 M22 e22 => ?_)
    obtain ⟨e22a, e22, f22⟩ := e22
    subst e22a
    refine g_if_eqI (t := 42) dX6_gift_25 (by decide) rfl (fun c25 => ?_) (fun c25 => ?_)
    · -- 25 t
      have qf22 : ¬ (0 ≤ w.toInt ∧ w.toInt ≤ 4) := fun h => by have := f22.mpr (by omega); omega
      clear f22 e22
      refine g_aload_n0 dX6_gift_42 rfl ?_
      refine g_iconst (v := 1) dX6_gift_43 rfl rfl ?_
      refine g_callVi1 dX6_gift_44 rfl vX6_243 hR.1 rfl (r_fail hR) (g_rm (by omega)) (Nat.le_of_ble_eq_true rfl) (fun z44 M44 e44 => ?_)
      obtain ⟨e44a, e44⟩ := e44
      subst e44a
      refine g_iret dX6_gift_47 rfl ?_
      first
        | (have hz := e44; exact ⟨_, rfl, Or.inl ⟨by omega, hz, rfl⟩⟩)
        | exact ⟨_, rfl, Or.inr ⟨by omega, rfl, rfl⟩⟩
    · -- 25 f
      have qf22 : 0 ≤ w.toInt ∧ w.toInt ≤ 4 := by have := f22.mp (by omega); omega
      clear f22 e22
      refine g_aload_n0 dX6_gift_28 rfl ?_
      refine g_getr dX6_gift_29 rfl fX6_64 hR.1 rfl ?_
      refine g_bipushI dX6_gift_32 rfl rfl (fun w32 h32 => ?_)
      refine g_iload_n1 dX6_gift_34 rfl ?_
      refine g_imulI dX6_gift_35 rfl ⟨by rw [h32]; omega, by rw [h32]; omega⟩ (fun w35 h35 => ?_)
      rw [h32] at h35
      refine g_iload_n2 dX6_gift_36 rfl ?_
      refine g_iaddI dX6_gift_37 rfl ⟨by omega, by omega⟩ (fun w37 h37 => ?_)
      refine g_ialdI dX6_gift_38 rfl (rf_book hR) ⟨by omega, by omega⟩ ?_
      rw [g_u_ne (show 425 ≠ 300 by omega)]
      have i38 : w37.toInt.toNat = 9 * i.toInt.toNat + w.toInt.toNat := by omega
      rw [i38]
      clear i38
      refine g_goto (t := 47) dX6_gift_39 (by decide) ?_
      refine g_iret dX6_gift_47 rfl ?_
      first
        | (have hz := e44; exact ⟨_, rfl, Or.inl ⟨by omega, hz, rfl⟩⟩)
        | exact ⟨_, rfl, Or.inr ⟨by omega, rfl, rfl⟩⟩
set_option maxHeartbeats 1200000 in
theorem r_order {Γ : gW} {M : gM} (hR : g_Ref Γ) (hg : -1 ≤ (M.1 300 32).toInt ∧ (M.1 300 32).toInt ≤ 6) {i : Int32} : Ct Γ yX6_order μX6_order 1 [.ref 300, .int i] M (g_qi (fun z M1 => (¬ (0 ≤ i.toInt ∧ i.toInt < (M.1 300 32).toInt) ∧ z.toInt = 0 ∧ M1 = g_u (g_u M 300 1 0) 300 1 1) ∨ ((0 ≤ i.toInt ∧ i.toInt < (M.1 300 32).toInt) ∧ M1 = g_u M 300 1 0 ∧ z = M.1 431 i.toInt.toNat))) := by
  refine g_enter rfl rfl rfl (Nat.le_of_ble_eq_true rfl) ?_
  show G Γ _ _ _ _ 0 [some (.ref 300), some (.int i)] [] M
  refine g_aload_n0 dX6_order_0 rfl ?_
  refine g_iconst (v := 0) dX6_order_1 rfl rfl ?_
  refine g_put dX6_order_2 rfl fX6_128 hR.1 rfl rfl rfl ?_
  refine g_iload_n1 dX6_order_5 rfl ?_
  refine g_iconstI dX6_order_6 rfl rfl (fun w6 h6 => ?_)
  refine g_aload_n0 dX6_order_7 rfl ?_
  refine g_geti dX6_order_8 rfl fX6_85 hR.1 rfl ?_
  rw [g_u_eq, if_neg (show ¬ (32 : Nat) = 1 by decide)]
  refine g_iconstI dX6_order_11 rfl rfl (fun w11 h11 => ?_)
  refine g_isubI dX6_order_12 rfl ⟨by omega, by omega⟩ (fun w12 h12 => ?_)
  refine g_callSi3 dX6_order_13 rfl sX6_131 (r_isIn) (g_rm (by omega)) (Nat.le_of_ble_eq_true rfl) (fun z13 M13 e13 => ?_)
  obtain ⟨e13a, e13, f13⟩ := e13
  subst e13a
  refine g_if_eqI (t := 28) dX6_order_16 (by decide) rfl (fun c16 => ?_) (fun c16 => ?_)
  · -- 16 t
    have qf13 : ¬ (0 ≤ i.toInt ∧ i.toInt ≤ (M.1 300 32).toInt - 1) := fun h => by have := f13.mpr (by omega); omega
    clear f13 e13
    refine g_aload_n0 dX6_order_28 rfl ?_
    refine g_iconst (v := 1) dX6_order_29 rfl rfl ?_
    refine g_callVi1 dX6_order_30 rfl vX6_243 hR.1 rfl (r_fail hR) (g_rm (by omega)) (Nat.le_of_ble_eq_true rfl) (fun z30 M30 e30 => ?_)
    obtain ⟨e30a, e30⟩ := e30
    subst e30a
    refine g_iret dX6_order_33 rfl ?_
    first
      | (have hz := e30; exact ⟨_, rfl, Or.inl ⟨by omega, hz, rfl⟩⟩)
      | exact ⟨_, rfl, Or.inr ⟨by omega, rfl, rfl⟩⟩
  · -- 16 f
    have qf13 : 0 ≤ i.toInt ∧ i.toInt ≤ (M.1 300 32).toInt - 1 := by have := f13.mp (by omega); omega
    clear f13 e13
    refine g_aload_n0 dX6_order_19 rfl ?_
    refine g_getr dX6_order_20 rfl fX6_82 hR.1 rfl ?_
    refine g_iload_n1 dX6_order_23 rfl ?_
    refine g_ialdI dX6_order_24 rfl (rf_order hR) ⟨by omega, by omega⟩ ?_
    rw [g_u_ne (show 431 ≠ 300 by omega)]
    refine g_goto (t := 33) dX6_order_25 (by decide) ?_
    refine g_iret dX6_order_33 rfl ?_
    first
      | (have hz := e30; exact ⟨_, rfl, Or.inl ⟨by omega, hz, rfl⟩⟩)
      | exact ⟨_, rfl, Or.inr ⟨by omega, rfl, rfl⟩⟩
/-- how many below n have P -/
noncomputable def cntP (P : Nat → Prop) : Nat → Int
  | 0 => 0
  | n + 1 => cntP P n + @ite Int (P n) (Classical.propDecidable _) 1 0
theorem cntP_yes {P : Nat → Prop} {n : Nat} (h : P n) : cntP P (n + 1) = cntP P n + 1 := by rw [cntP, if_pos h]
theorem cntP_no {P : Nat → Prop} {n : Nat} (h : ¬ P n) : cntP P (n + 1) = cntP P n := by rw [cntP, if_neg h]; omega
theorem cntP_rng (P : Nat → Prop) (n : Nat) : 0 ≤ cntP P n ∧ cntP P n ≤ n := by
  induction n with
  | zero => exact ⟨Int.le_refl _, Int.le_refl _⟩
  | succ n ih =>
    by_cases h : P n
    · rw [cntP_yes h]; omega
    · rw [cntP_no h]; omega
theorem cntP_big {P : Nat → Prop} {n m : Nat} (hnm : n ≤ m) (h : ∀ u, n ≤ u → ¬ P u) : cntP P m = cntP P n := by
  obtain ⟨k, rfl⟩ : ∃ k, m = n + k := ⟨m - n, by omega⟩
  clear hnm
  induction k with
  | zero => rfl
  | succ k ih => rw [← Nat.add_assoc, cntP_no (h _ (by omega)), ih]
theorem cntP_congr {P Q : Nat → Prop} {n : Nat} (h : ∀ u, u < n → (P u ↔ Q u)) : cntP P n = cntP Q n := by
  induction n with
  | zero => rfl
  | succ n ih =>
    have e := ih (fun u hu => h u (by omega))
    by_cases hp : P n
    · rw [cntP_yes hp, cntP_yes ((h n (by omega)).mp hp), e]
    · rw [cntP_no hp, cntP_no (fun hq => hp ((h n (by omega)).mpr hq)), e]
set_option maxHeartbeats 1200000 in
theorem l_sets {Γ : gW} {M : gM} {T : gTw} (hR : g_Ref Γ) (hO : TOK T) (hS : RS T M) {p : Int32} (hp : 0 ≤ p.toInt ∧ p.toInt < T 0 0) {Q : Option Value → gM → Prop} (hQ : ∀ z : Int32, z.toInt = cntP (fitT T p.toInt.toNat) 4096 → Q (some (.int z)) M) : ∀ (n9 : Nat) (n s : Int32), ((2 : Int) ^ (T 0 1).toNat - s.toInt).toNat = n9 → 0 ≤ s.toInt → s.toInt ≤ (2 : Int) ^ (T 0 1).toNat → n.toInt = cntP (fitT T p.toInt.toNat) s.toInt.toNat → G Γ μX6_sets (g_R 3) (0, 0) (g_Z Γ Q) 23 [some (.ref 300), some (.int p), some (.int n), some (.int s)] [] M := by
  intro n9
  induction n9 using Nat.strongRecOn with
  | ind n9 ih =>
    intro n s hn hs0 hs1 hcn
    obtain ⟨hC, hW, hA, hDy, hWe⟩ := id hS
    obtain ⟨o_pe, o_th, o_la, o_wi, o_da, o_we, o_p, o_i⟩ := id hO
    obtain ⟨r_0, r_1, r_2, r_3, r_p, r_i⟩ := id hC
    have ep : ((2 ^ (T 0 1).toNat : Nat) : Int) = (2 : Int) ^ (T 0 1).toNat := by simp
    have hp12 : 2 ^ (T 0 1).toNat ≤ 2 ^ 12 := Nat.pow_le_pow_right (by decide) (by omega)
    have hp12e : (2 : Nat) ^ 12 = 4096 := rfl
    have hcr := cntP_rng (fitT T p.toInt.toNat) s.toInt.toNat
    refine g_iload_n3 dX6_sets_23 rfl ?_
    refine g_iconstI dX6_sets_24 rfl rfl (fun w24 h24 => ?_)
    refine g_aload_n0 dX6_sets_25 rfl ?_
    refine g_getr dX6_sets_26 rfl fX6_25 hR.1 rfl ?_
    refine g_iconstI dX6_sets_29 rfl rfl (fun w29 h29 => ?_)
    refine g_ialdI dX6_sets_30 rfl (rf_told hR) ⟨by omega, by omega⟩ ?_
    have et30 : w29.toInt.toNat = 1 := by omega
    rw [et30]
    clear et30
    refine g_ishlB dX6_sets_31 rfl ⟨by omega, by omega⟩ (fun w31 h31 => ?_)
    have hpw : 2 ^ (M.1 402 1).toInt.toNat < 4294967296 := by rw [r_1]; omega
    rw [bn_lit (n := 1) h24, Nat.shiftLeft_eq, Nat.one_mul, Nat.mod_eq_of_lt hpw, r_1] at h31
    have e31 : w31.toInt = (2 : Int) ^ (T 0 1).toNat := by rw [i_bn (by omega), h31, ep]
    refine g_icmp_geI (t := 62) dX6_sets_32 (by decide) rfl (fun c32 => ?_) (fun c32 => ?_)
    · -- 32 t
      refine g_iload_n2 dX6_sets_62 rfl ?_
      refine g_iret dX6_sets_63 rfl ?_
      refine hQ _ ?_
      rw [hcn]
      have h2 : hasT T p.toInt.toNat < 2 ^ (T 0 1).toNat := by rw [← RW.has hA (p := p.toInt.toNat) (by omega)]; exact gat_lt _ _
      refine (cntP_big (by omega) (fun u hu hf => ?_)).symm
      have h3 := sub_le hf.2.1
      omega
    · -- 32 f
      refine g_iload_n2 dX6_sets_35 rfl ?_
      refine g_aload_n0 dX6_sets_36 rfl ?_
      refine g_aload_n0 dX6_sets_37 rfl ?_
      refine g_getr dX6_sets_38 rfl fX6_41 hR.1 rfl ?_
      refine g_iload_n1 dX6_sets_41 rfl ?_
      refine g_iload_n3 dX6_sets_42 rfl ?_
      refine g_callVi3 dX6_sets_43 rfl vX6_301 hR.1 rfl (r_fits hR hO hC hW (rf_now hR) hA hp ⟨hs0, by omega⟩) (g_rm (by omega)) (Nat.le_of_ble_eq_true rfl) (fun z43 M43 e43 => ?_)
      obtain ⟨rfl, e43, f43⟩ := e43
      refine g_if_eqI (t := 53) dX6_sets_46 (by decide) rfl (fun c46 => ?_) (fun c46 => ?_)
      · -- 46 t
        have hnf : ¬ fitT T p.toInt.toNat s.toInt.toNat := fun h => by have := f43.mpr h; omega
        clear f43 e43
        refine g_iconstI dX6_sets_53 rfl rfl (fun w53 h53 => ?_)
        refine g_iaddI dX6_sets_54 rfl ⟨by omega, by omega⟩ (fun w54 h54 => ?_)
        refine g_istore_n2 dX6_sets_55 rfl rfl ?_
        refine g_iincI3 dX6_sets_56 rfl rfl rfl ⟨by omega, by omega⟩ (fun w56 h56 => ?_)
        refine g_goto (t := 23) dX6_sets_59 (by decide) ?_
        refine ih _ (by omega) _ _ rfl (by omega) (by omega) ?_
        rw [h56, show (s.toInt + 1).toNat = s.toInt.toNat + 1 by omega]
        first
          | (have hz := hyf; rw [cntP_yes hz]; omega)
          | (have hz := hnf; rw [cntP_no hz]; omega)
      · -- 46 f
        have hyf := f43.mp (by omega)
        clear f43 e43
        refine g_iconstI dX6_sets_49 rfl rfl (fun w49 h49 => ?_)
        refine g_goto (t := 54) dX6_sets_50 (by decide) ?_
        refine g_iaddI dX6_sets_54 rfl ⟨by omega, by omega⟩ (fun w54 h54 => ?_)
        refine g_istore_n2 dX6_sets_55 rfl rfl ?_
        refine g_iincI3 dX6_sets_56 rfl rfl rfl ⟨by omega, by omega⟩ (fun w56 h56 => ?_)
        refine g_goto (t := 23) dX6_sets_59 (by decide) ?_
        refine ih _ (by omega) _ _ rfl (by omega) (by omega) ?_
        rw [h56, show (s.toInt + 1).toNat = s.toInt.toNat + 1 by omega]
        first
          | (have hz := hyf; rw [cntP_yes hz]; omega)
          | (have hz := hnf; rw [cntP_no hz]; omega)
set_option maxHeartbeats 1200000 in
theorem r_sets {Γ : gW} {M : gM} {T : gTw} (hR : g_Ref Γ) (hO : TOK T) (hS : RS T M) {p : Int32} : Ct Γ yX6_sets μX6_sets 3 [.ref 300, .int p] M (g_qi (fun z M1 => (¬ (0 ≤ p.toInt ∧ p.toInt < T 0 0) ∧ z.toInt = 0 ∧ M1 = g_u (g_u M 300 1 0) 300 1 1) ∨ ((0 ≤ p.toInt ∧ p.toInt < T 0 0) ∧ M1 = g_u M 300 1 0 ∧ z.toInt = cntP (fitT T p.toInt.toNat) 4096))) := by
  have hS0 := RS.code (x := 0) hS
  obtain ⟨hC, hW, hA, hDy, hWe⟩ := id hS0
  obtain ⟨o_pe, o_th, o_la, o_wi, o_da, o_we, o_p, o_i⟩ := id hO
  obtain ⟨r_0, r_1, r_2, r_3, r_p, r_i⟩ := id hC
  refine g_enter rfl rfl rfl (Nat.le_of_ble_eq_true rfl) ?_
  show G Γ _ _ _ _ 0 [some (.ref 300), some (.int p), none, none] [] M
  refine g_aload_n0 dX6_sets_0 rfl ?_
  refine g_iconst (v := 0) dX6_sets_1 rfl rfl ?_
  refine g_put dX6_sets_2 rfl fX6_128 hR.1 rfl rfl rfl ?_
  refine g_aload_n0 dX6_sets_5 rfl ?_
  refine g_iload_n1 dX6_sets_6 rfl ?_
  refine g_callVi1 dX6_sets_7 rfl vX6_263 hR.1 rfl (r_isPerson hR hO hC) (g_rm (by omega)) (Nat.le_of_ble_eq_true rfl) (fun z7 M7 e7 => ?_)
  obtain ⟨e7a, e7, f7⟩ := e7
  subst e7a
  refine g_if_neI (t := 19) dX6_sets_10 (by decide) rfl (fun c10 => ?_) (fun c10 => ?_)
  · -- 10 t
    have hp := f7.mp (by omega)
    clear f7 e7
    have hpos := two_pos (T 0 1).toNat
    refine g_iconstI dX6_sets_19 rfl rfl (fun w19 h19 => ?_)
    refine g_istore_n2 dX6_sets_20 rfl rfl ?_
    refine g_iconstI dX6_sets_21 rfl rfl (fun w21 h21 => ?_)
    refine g_istore_n3 dX6_sets_22 rfl rfl ?_
    exact l_sets hR hO hS0 hp (fun z hz => ⟨_, rfl, Or.inr ⟨hp, rfl, hz⟩⟩) _ _ _ rfl (by omega) (by omega) (by rw [h19, h21]; rfl)
  · -- 10 f
    have hp : ¬ (0 ≤ p.toInt ∧ p.toInt < T 0 0) := fun h => by have := f7.mpr h; omega
    clear f7 e7
    refine g_aload_n0 dX6_sets_13 rfl ?_
    refine g_iconst (v := 1) dX6_sets_14 rfl rfl ?_
    refine g_callVi1 dX6_sets_15 rfl vX6_243 hR.1 rfl (r_fail hR) (g_rm (by omega)) (Nat.le_of_ble_eq_true rfl) (fun z15 M15 e15 => ?_)
    obtain ⟨e15a, e15⟩ := e15
    subst e15a
    refine g_iret dX6_sets_18 rfl ?_
    exact ⟨_, rfl, Or.inl ⟨by omega, e15, rfl⟩⟩
