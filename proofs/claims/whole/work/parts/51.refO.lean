/-- K weights keep up to n -/
def keepK (n : Int) (K : Nat) : Prop := 1 ≤ K ∧ K ≤ 10 ∧ n ≤ (2 : Int) ^ K - 1 ∧ (2 : Int) ^ (K - 1) - 1 < n
def keepW (n i : Int) : Int := if n - ((2 : Int) ^ i.toNat - 1) < (2 : Int) ^ i.toNat then n - ((2 : Int) ^ i.toNat - 1) else (2 : Int) ^ i.toNat
theorem pow_s (k : Nat) : (2 : Int) ^ (k + 1) = (2 : Int) ^ k * 2 := Int.pow_succ 2 k
set_option maxHeartbeats 1200000 in
theorem l_keep {Γ : gW} {M : gM} (hR : g_Ref Γ) {n i : Int32} (hn : 1 ≤ n.toInt ∧ n.toInt ≤ 999) {Q : Option Value → gM → Prop} (hQ1 : ∀ (K : Nat) (z : Int32), keepK n.toInt K → 0 ≤ i.toInt → i.toInt < K → z.toInt = keepW n.toInt i.toInt → Q (some (.int z)) M) (hk : ∀ (K : Nat) (m al v : Int32) (z6 : Option Value), keepK n.toInt K → ¬ (0 ≤ i.toInt ∧ i.toInt < K) → m.toInt = K → G Γ μX6_keep (g_R 1) (0, 0) (g_Z Γ Q) 74 [some (.ref 300), some (.int n), some (.int i), some (.int m), some (.int al), some (.int v), z6] [] M) : ∀ (n9 : Nat) (m al v : Int32) (z6 : Option Value) (k : Nat), 12 - k = n9 → k ≤ 10 → m.toInt = k → (¬ (0 ≤ i.toInt ∧ i.toInt < k)) → v.toInt = (2 : Int) ^ k → ((al.toInt = (2 : Int) ^ k - 1 ∧ (k = 0 ∨ (2 : Int) ^ (k - 1) - 1 < n.toInt)) ∨ (al.toInt = n.toInt ∧ keepK n.toInt k)) → G Γ μX6_keep (g_R 1) (0, 0) (g_Z Γ Q) 30 [some (.ref 300), some (.int n), some (.int i), some (.int m), some (.int al), some (.int v), z6] [] M := by
  intro n9
  induction n9 using Nat.strongRecOn with
  | ind n9 ih =>
    intro m al v z6 k hm hk10 hmk hik hv hal
    have hpw : (1 : Int) ≤ (2 : Int) ^ k := by have := two_pos k; omega
    have hp10 : (2 : Int) ^ k ≤ 1024 := by
      have h := Nat.pow_le_pow_right (n := 2) (by decide) hk10
      have e : ((2 ^ k : Nat) : Int) = (2 : Int) ^ k := by simp
      have e2 : (2 : Nat) ^ 10 = 1024 := rfl
      omega
    have hps := pow_s k
    refine g_iload4 dX6_keep_30 rfl ?_
    refine g_iload_n1 dX6_keep_32 rfl ?_
    refine g_icmp_geI (t := 74) dX6_keep_33 (by decide) rfl (fun c33 => ?_) (fun c33 => ?_)
    · -- 33 t
      have hK : keepK n.toInt k := by
        rcases hal with ⟨h1, h2⟩ | ⟨h1, h2⟩
        · rcases h2 with rfl | h2
          · simp at h1; omega
          · refine ⟨?_, hk10, by omega, h2⟩
            rcases Nat.eq_zero_or_pos k with h0 | h0
            · subst h0; simp at h1; omega
            · exact h0
        · exact h2
      exact hk k _ _ _ _ hK hik hmk
    · -- 33 f
      have hal1 : al.toInt = (2 : Int) ^ k - 1 := by
        rcases hal with ⟨h1, -⟩ | ⟨h1, -⟩ <;> omega
      have hk9 : k ≤ 9 := by
        rcases Nat.lt_or_ge 9 k with h | h
        · have : k = 10 := by omega
          subst this
          have e2 : (2 : Int) ^ 10 = 1024 := rfl
          omega
        · exact h
      refine g_iload5 dX6_keep_36 rfl ?_
      refine g_iload_n1 dX6_keep_38 rfl ?_
      refine g_iload4 dX6_keep_39 rfl ?_
      refine g_isubI dX6_keep_41 rfl ⟨by omega, by omega⟩ (fun w41 h41 => ?_)
      refine g_mminI dX6_keep_42 rfl jX6_165 jm_min_s jm_i jm_min_c ⟨by show 1 ≤ _ + 1; omega, by show _ ≤ 40 + 50 * _; simp [Value.category] <;> omega⟩ (fun w42 h42 => ?_)
      refine g_istore6 dX6_keep_45 rfl rfl ?_
      refine g_iload_n3 dX6_keep_47 rfl ?_
      refine g_iload_n2 dX6_keep_48 rfl ?_
      refine g_icmp_neI (t := 55) dX6_keep_49 (by decide) rfl (fun c49 => ?_) (fun c49 => ?_)
      · -- 49 t
        refine g_iload4 dX6_keep_55 rfl ?_
        refine g_iload6 dX6_keep_57 rfl ?_
        refine g_iaddI dX6_keep_59 rfl ⟨by omega, by omega⟩ (fun w59 h59 => ?_)
        refine g_istore4 dX6_keep_60 rfl rfl ?_
        refine g_iincI3 dX6_keep_62 rfl rfl rfl ⟨by omega, by omega⟩ (fun w62 h62 => ?_)
        refine g_iload5 dX6_keep_65 rfl ?_
        refine g_iconstI dX6_keep_67 rfl rfl (fun w67 h67 => ?_)
        refine g_imulI dX6_keep_68 rfl ⟨by rw [h67]; omega, by rw [h67]; omega⟩ (fun w68 h68 => ?_)
        rw [h67] at h68
        refine g_istore5 dX6_keep_69 rfl rfl ?_
        refine g_goto (t := 30) dX6_keep_71 (by decide) ?_
        refine ih _ ?_ _ _ _ _ (k + 1) rfl (by omega) (by omega) (by omega) (by omega) ?_
        · omega
        · by_cases hlast : n.toInt - al.toInt < v.toInt
          · rw [if_pos (by omega)] at h42
            exact Or.inr ⟨by omega, by omega, by omega, by omega, by simp; omega⟩
          · rw [if_neg (by omega)] at h42
            exact Or.inl ⟨by omega, Or.inr (by simp; omega)⟩
      · -- 49 f
        refine g_iload6 dX6_keep_52 rfl ?_
        refine g_iret dX6_keep_54 rfl ?_
        have hex : ∃ K : Nat, keepK n.toInt K ∧ k < K := by
          have two : ∀ d j : Nat, j + d = 10 → (2 : Int) ^ j - 1 < n.toInt → ∃ K : Nat, keepK n.toInt K ∧ j < K := by
            intro d
            induction d with
            | zero =>
              intro j hj hlt
              have : j = 10 := by omega
              subst this
              have e2 : (2 : Int) ^ 10 = 1024 := rfl
              omega
            | succ d ihd =>
              intro j hj hlt
              by_cases hnx : n.toInt ≤ (2 : Int) ^ (j + 1) - 1
              · exact ⟨j + 1, ⟨by omega, by omega, hnx, by simpa using hlt⟩, by omega⟩
              · obtain ⟨K, h1, h2⟩ := ihd (j + 1) (by omega) (by omega)
                exact ⟨K, h1, by omega⟩
          exact two (10 - k) k (by omega) (by omega)
        obtain ⟨K, hK, hkK⟩ := hex
        refine hQ1 K _ hK (by omega) (by omega) ?_
        rw [keepW, show i.toInt.toNat = k by omega, h42, h41, hal1, hv]
set_option maxHeartbeats 1200000 in
theorem l_keep2 {Γ : gW} {M : gM} (hR : g_Ref Γ) {n i : Int32} (hn : 1 ≤ n.toInt ∧ n.toInt ≤ 999) {K : Nat} (hK : keepK n.toInt K) (hik : ¬ (0 ≤ i.toInt ∧ i.toInt < K)) {m al v : Int32} {z6 : Option Value} (hm : m.toInt = K) : G Γ μX6_keep (g_R 1) (0, 0) (g_Z Γ (g_qi (fun z M1 => (¬ (1 ≤ n.toInt ∧ n.toInt ≤ 999) ∧ z.toInt = 0 ∧ M1 = g_u (g_u M 300 1 0) 300 1 2) ∨ ((1 ≤ n.toInt ∧ n.toInt ≤ 999) ∧ ∃ K : Nat, keepK n.toInt K ∧ ((0 ≤ i.toInt ∧ i.toInt < K ∧ z.toInt = keepW n.toInt i.toInt ∧ M1 = g_u M 300 1 0) ∨ (i.toInt = -1 ∧ z.toInt = K ∧ M1 = g_u M 300 1 0) ∨ (¬ (0 ≤ i.toInt ∧ i.toInt < K) ∧ ¬ i.toInt = -1 ∧ z.toInt = 0 ∧ M1 = g_u (g_u M 300 1 0) 300 1 1)))))) 74 [some (.ref 300), some (.int n), some (.int i), some (.int m), some (.int al), some (.int v), z6] [] (g_u M 300 1 0) := by
  refine g_iload_n2 dX6_keep_74 rfl ?_
  refine g_iconstI dX6_keep_75 rfl rfl (fun w75 h75 => ?_)
  refine g_icmp_neI (t := 83) dX6_keep_76 (by decide) rfl (fun c76 => ?_) (fun c76 => ?_)
  · -- 76 t
    refine g_aload_n0 dX6_keep_83 rfl ?_
    refine g_iconst (v := 1) dX6_keep_84 rfl rfl ?_
    refine g_callVi1 dX6_keep_85 rfl vX6_243 hR.1 rfl (r_fail hR) (g_rm (by omega)) (Nat.le_of_ble_eq_true rfl) (fun z85 M85 e85 => ?_)
    obtain ⟨e85a, e85⟩ := e85
    subst e85a
    refine g_iret dX6_keep_88 rfl ?_
    first
      | (have hz := e85; exact ⟨_, rfl, Or.inr ⟨hn, K, hK, Or.inr (Or.inr ⟨hik, by omega, hz, rfl⟩)⟩⟩)
      | exact ⟨_, rfl, Or.inr ⟨hn, K, hK, Or.inr (Or.inl ⟨by omega, by omega, rfl⟩)⟩⟩
  · -- 76 f
    refine g_iload_n3 dX6_keep_79 rfl ?_
    refine g_goto (t := 88) dX6_keep_80 (by decide) ?_
    refine g_iret dX6_keep_88 rfl ?_
    first
      | (have hz := e85; exact ⟨_, rfl, Or.inr ⟨hn, K, hK, Or.inr (Or.inr ⟨hik, by omega, hz, rfl⟩)⟩⟩)
      | exact ⟨_, rfl, Or.inr ⟨hn, K, hK, Or.inr (Or.inl ⟨by omega, by omega, rfl⟩)⟩⟩
set_option maxHeartbeats 1200000 in
theorem r_keep {Γ : gW} {M : gM} (hR : g_Ref Γ) {n i : Int32} : Ct Γ yX6_keep μX6_keep 1 [.ref 300, .int n, .int i] M (g_qi (fun z M1 => (¬ (1 ≤ n.toInt ∧ n.toInt ≤ 999) ∧ z.toInt = 0 ∧ M1 = g_u (g_u M 300 1 0) 300 1 2) ∨ ((1 ≤ n.toInt ∧ n.toInt ≤ 999) ∧ ∃ K : Nat, keepK n.toInt K ∧ ((0 ≤ i.toInt ∧ i.toInt < K ∧ z.toInt = keepW n.toInt i.toInt ∧ M1 = g_u M 300 1 0) ∨ (i.toInt = -1 ∧ z.toInt = K ∧ M1 = g_u M 300 1 0) ∨ (¬ (0 ≤ i.toInt ∧ i.toInt < K) ∧ ¬ i.toInt = -1 ∧ z.toInt = 0 ∧ M1 = g_u (g_u M 300 1 0) 300 1 1))))) := by
  refine g_enter rfl rfl rfl (Nat.le_of_ble_eq_true rfl) ?_
  show G Γ _ _ _ _ 0 [some (.ref 300), some (.int n), some (.int i), none, none, none, none] [] M
  refine g_aload_n0 dX6_keep_0 rfl ?_
  refine g_iconst (v := 0) dX6_keep_1 rfl rfl ?_
  refine g_put dX6_keep_2 rfl fX6_128 hR.1 rfl rfl rfl ?_
  refine g_iload_n1 dX6_keep_5 rfl ?_
  refine g_iconstI dX6_keep_6 rfl rfl (fun w6 h6 => ?_)
  refine g_sipushI dX6_keep_7 rfl rfl (fun w7 h7 => ?_)
  refine g_callSi3 dX6_keep_10 rfl sX6_131 (r_isIn) (g_rm (by omega)) (Nat.le_of_ble_eq_true rfl) (fun z10 M10 e10 => ?_)
  obtain ⟨e10a, e10, f10⟩ := e10
  subst e10a
  refine g_if_neI (t := 22) dX6_keep_13 (by decide) rfl (fun c13 => ?_) (fun c13 => ?_)
  · -- 13 t
    have hn : 1 ≤ n.toInt ∧ n.toInt ≤ 999 := by have := f10.mp (by omega); omega
    clear f10 e10
    refine g_iconstI dX6_keep_22 rfl rfl (fun w22 h22 => ?_)
    refine g_istore_n3 dX6_keep_23 rfl rfl ?_
    refine g_iconstI dX6_keep_24 rfl rfl (fun w24 h24 => ?_)
    refine g_istore4 dX6_keep_25 rfl rfl ?_
    refine g_iconstI dX6_keep_27 rfl rfl (fun w27 h27 => ?_)
    refine g_istore5 dX6_keep_28 rfl rfl ?_
    exact l_keep hR hn (fun K z hK h1 h2 h3 => ⟨_, rfl, Or.inr ⟨hn, K, hK, Or.inl ⟨h1, h2, h3, rfl⟩⟩⟩) (fun K m al v z6 hK hik hm => l_keep2 hR hn hK hik hm) _ _ _ _ _ 0 rfl (by omega) (by omega) (by omega) (by rw [h27]; rfl) (Or.inl ⟨by rw [h24]; rfl, Or.inl rfl⟩)
  · -- 13 f
    have hn : ¬ (1 ≤ n.toInt ∧ n.toInt ≤ 999) := fun h => by have := f10.mpr (by omega); omega
    clear f10 e10
    refine g_aload_n0 dX6_keep_16 rfl ?_
    refine g_iconst (v := 2) dX6_keep_17 rfl rfl ?_
    refine g_callVi1 dX6_keep_18 rfl vX6_243 hR.1 rfl (r_fail hR) (g_rm (by omega)) (Nat.le_of_ble_eq_true rfl) (fun z18 M18 e18 => ?_)
    obtain ⟨e18a, e18⟩ := e18
    subst e18a
    refine g_iret dX6_keep_21 rfl ?_
    exact ⟨_, rfl, Or.inl ⟨hn, e18, rfl⟩⟩
