def fr2 (M M' : gM) : Prop := (∀ j, j ≠ 442 → j ≠ 409 → M'.1 j = M.1 j) ∧ M'.2 = M.2
theorem stP_inv {T0 : gTw} (h0 : INV T0) (hd : T0 0 4 + 101 ≤ 100000) : ∀ (k : Nat) (T : gTw), k ≤ 100 → stP T0 k T → INV T ∧ T 0 4 = T0 0 4 + k ∧ (∀ i, i ≠ 4 → T 0 i = T0 0 i) ∧ (∀ f i, f = 1 ∨ f = 2 ∨ f = 8 → T f i = T0 f i) := by
  intro k
  induction k with
  | zero => rintro T - rfl; exact ⟨h0, by simp, fun _ _ => rfl, fun _ _ _ => rfl⟩
  | succ k ih =>
    rintro T' hk ⟨T, T1, b, h1, h2, -, rfl⟩
    obtain ⟨i1, i2, i3, i4⟩ := ih T (by omega) h1
    have hp := i1.1.1
    obtain ⟨j1, j2⟩ := psP_inv i1 _ _ _ (by omega) h2
    have e4 : T1 0 4 = T 0 4 := j2 0 4 (by decide) (by decide) (by decide) (by decide)
    refine ⟨INV.day j1 (by omega), ?_, fun i hi => ?_, fun f i hf => ?_⟩
    · rw [dayT, upT_eq]; omega
    · rw [dayT, upT_ne (by omega)]
      show T1 0 i = _
      rw [j2 0 i (by decide) (by decide) (by decide) (by decide)]; exact i3 i hi
    · rw [dayT, upT_ne (by omega), dryT, if_neg (by omega), j2 f i (by omega) (by omega) (by omega) (by omega)]
      exact i4 f i hf
/-- still()'s answer -/
def stillZ (T : gTw) (z : Int) : Prop := (∃ (k : Nat) (T1 T2 : gTw) (b : Prop), k < 100 ∧ stP T k T1 ∧ psP T1 (T1 0 0).toNat T2 b ∧ ¬ b ∧ quiet T2 ∧ z = T1 0 4) ∨ (∃ T1, stP T 100 T1 ∧ z = -1)
set_option maxHeartbeats 1200000 in
theorem l_stillEnd {Γ : gW} {M0 : gM} {T0 : gTw} (hR : g_Ref Γ) (hI : INV T0) {d : Int32} (hd : d.toInt = T0 0 4) (hC0 : CR T0 M0) (hWe0 : ∀ i : Nat, (i : Int) < T0 0 1 → (M0.1 411 i).toInt = if (T0 0 5).toNat.testBit i then 1 else 0) (hW0 : WR T0 M0) {M : gM} {T : gTw} {sm i : Int32} {z4 : Option Value} (hfr : fr 442 M0 M) (hA : RW T (M.1 442)) (hsm : sm.toInt = 0 ∨ sm.toInt = 1) (hps : psP T0 (T0 0 0).toNat T (sm.toInt = 1)) {Q : Option Value → gM → Prop} (hret : ∀ z : Int32, ¬ sm.toInt = 1 → quiet T → z.toInt = T0 0 4 → Q (some (.int z)) M) (hgo : ∀ (M2 : gM) (d2 : Int32), ¬ (¬ sm.toInt = 1 ∧ quiet T) → d2.toInt = d.toInt + 1 → wrI T M M2 (T 0 1).toNat → G Γ μX6_stillFrom (g_R 5) (0, 0) (g_Z Γ Q) 5 [some (.ref 300), some (.int d2), some (.int sm), some (.int i), z4] [] M2) : G Γ μX6_stillFrom (g_R 5) (0, 0) (g_Z Γ Q) 109 [some (.ref 300), some (.int d), some (.int sm), some (.int i), z4] [] M := by
  have o_pe0 := hI.1.1
  have o_da0 := hI.1.2.2.2.2.1
  obtain ⟨hIT, hsame⟩ := psP_inv hI _ _ _ (by omega) hps
  have hO := hIT.1
  have hC : CR T M := by
    have h := CR.fr hC0 hfr (by omega)
    unfold CR at h ⊢
    simp only [hsame 0 _ (by decide) (by decide) (by decide) (by decide), hsame 1 _ (by decide) (by decide) (by decide) (by decide), hsame 2 _ (by decide) (by decide) (by decide) (by decide), hsame 8 _ (by decide) (by decide) (by decide) (by decide)]
    exact h
  have hW : WR T M := by
    have h := WR.fr hW0 hfr (by omega)
    unfold WR at h ⊢
    simp only [hsame 0 _ (by decide) (by decide) (by decide) (by decide), hsame 7 _ (by decide) (by decide) (by decide) (by decide)]
    exact h
  have hWe : ∀ i : Nat, (i : Int) < T 0 1 → (M.1 411 i).toInt = if (T 0 5).toNat.testBit i then 1 else 0 := by
    rw [hfr.1 411 (by decide), hsame 0 1 (by decide) (by decide) (by decide) (by decide), hsame 0 5 (by decide) (by decide) (by decide) (by decide)]; exact hWe0
  have hdd : d.toInt = T 0 4 := by rw [hsame 0 4 (by decide) (by decide) (by decide) (by decide)]; exact hd
  refine g_iload_n2 dX6_stillFrom_109 rfl ?_
  refine g_if_neI (t := 127) dX6_stillFrom_110 (by decide) rfl (fun c110 => ?_) (fun c110 => ?_)
  · -- 110 t
    refine g_aload_n0 dX6_stillFrom_127 rfl ?_
    refine g_callVv0 dX6_stillFrom_128 rfl vX6_383 hR.1 rfl (r_dryW hR hO hC hW hWe) (g_rm (by omega)) (Nat.le_of_ble_eq_true rfl) (fun M128 e128 => ?_)
    refine g_iincI1 dX6_stillFrom_131 rfl rfl rfl ⟨by omega, by omega⟩ (fun w131 h131 => ?_)
    refine g_goto (t := 5) dX6_stillFrom_134 (by decide) ?_
    refine hgo _ _ ?_ (by omega) e128
    first
      | (have hz := hnq; exact fun h => hz h.2)
      | exact fun h => h.1 (by omega)
  · -- 110 f
    refine g_aload_n0 dX6_stillFrom_113 rfl ?_
    refine g_aload_n0 dX6_stillFrom_114 rfl ?_
    refine g_getr dX6_stillFrom_115 rfl fX6_100 hR.1 rfl ?_
    refine g_iload_n1 dX6_stillFrom_118 rfl ?_
    refine g_callVi2 dX6_stillFrom_119 rfl vX6_386 hR.1 rfl (r_isStill hR hO hC hW hWe (rf_row hR) hA hdd) (g_rm (by omega)) (Nat.le_of_ble_eq_true rfl) (fun z119 M119 e119 => ?_)
    obtain ⟨e119a, e119, f119⟩ := e119
    subst e119a
    refine g_if_eqI (t := 127) dX6_stillFrom_122 (by decide) rfl (fun c122 => ?_) (fun c122 => ?_)
    · -- 122 t
      have hnq : ¬ quiet T := fun h => by have := f119.mpr h; omega
      refine g_aload_n0 dX6_stillFrom_127 rfl ?_
      refine g_callVv0 dX6_stillFrom_128 rfl vX6_383 hR.1 rfl (r_dryW hR hO hC hW hWe) (g_rm (by omega)) (Nat.le_of_ble_eq_true rfl) (fun M128 e128 => ?_)
      refine g_iincI1 dX6_stillFrom_131 rfl rfl rfl ⟨by omega, by omega⟩ (fun w131 h131 => ?_)
      refine g_goto (t := 5) dX6_stillFrom_134 (by decide) ?_
      refine hgo _ _ ?_ (by omega) e128
      first
        | (have hz := hnq; exact fun h => hz h.2)
        | exact fun h => h.1 (by omega)
    · -- 122 f
      have hyq := f119.mp (by omega)
      refine g_iload_n1 dX6_stillFrom_125 rfl ?_
      refine g_iret dX6_stillFrom_126 rfl ?_
      exact hret _ (by omega) hyq hd
set_option maxHeartbeats 1200000 in
theorem l_stillOut {Γ : gW} {M0 : gM} {T0 : gTw} (hR : g_Ref Γ) (hI : INV T0) (hday : T0 0 4 + 101 ≤ 100000) (hD0 : (M0.1 300 12).toInt = T0 0 4) (hC0 : CR T0 M0) (hWe0 : ∀ i : Nat, (i : Int) < T0 0 1 → (M0.1 411 i).toInt = if (T0 0 5).toNat.testBit i then 1 else 0) {Q : Option Value → gM → Prop} (hQ : ∀ (M : gM) (z : Int32), fr2 M0 M → stillZ T0 z.toInt → Q (some (.int z)) M) : ∀ (n9 : Nat) (d : Int32) (z2 z3 z4 : Option Value) (M : gM) (T : gTw) (k : Nat), 100 - k = n9 → k ≤ 100 → d.toInt = T 0 4 → fr2 M0 M → WR T M → RW T (M.1 442) → stP T0 k T → g_c1 z2 = true → g_c1 z3 = true → G Γ μX6_stillFrom (g_R 5) (0, 0) (g_Z Γ Q) 5 [some (.ref 300), some (.int d), z2, z3, z4] [] M := by
  intro n9
  induction n9 using Nat.strongRecOn with
  | ind n9 ih =>
    intro d z2 z3 z4 M T k h9 hk100 hd hfr hW hA hst hc2 hc3
    obtain ⟨hIT, hT4, hT0, hT1⟩ := stP_inv hI hday _ _ hk100 hst
    have hO := hIT.1
    have o_da := hO.2.2.2.2.1
    have o_pe := hO.1
    have hdy : (M.1 300 12).toInt = T0 0 4 := by rw [hfr.1 300 (by decide) (by decide)]; exact hD0
    have hC : CR T M := by
      have h := hC0
      unfold CR at h ⊢
      rw [hfr.1 402 (by decide) (by decide), hfr.1 403 (by decide) (by decide), hfr.1 404 (by decide) (by decide), hfr.1 405 (by decide) (by decide)]
      simp only [hT0 0 (by decide), hT0 1 (by decide), hT0 2 (by decide), hT0 3 (by decide), hT1 1 _ (by decide), hT1 2 _ (by decide), hT1 8 _ (by decide)]
      exact h
    have hWe : ∀ i : Nat, (i : Int) < T 0 1 → (M.1 411 i).toInt = if (T 0 5).toNat.testBit i then 1 else 0 := by
      rw [hfr.1 411 (by decide) (by decide), hT0 1 (by decide), hT0 5 (by decide)]; exact hWe0
    refine g_iload_n1 dX6_stillFrom_5 rfl ?_
    refine g_aload_n0 dX6_stillFrom_6 rfl ?_
    refine g_geti dX6_stillFrom_7 rfl fX6_253 hR.1 rfl ?_
    refine g_bipushI dX6_stillFrom_10 rfl rfl (fun w10 h10 => ?_)
    refine g_iaddI dX6_stillFrom_12 rfl ⟨by omega, by omega⟩ (fun w12 h12 => ?_)
    refine g_icmp_geI (t := 137) dX6_stillFrom_13 (by decide) rfl (fun c13 => ?_) (fun c13 => ?_)
    · -- 13 t
      refine g_iconstI dX6_stillFrom_137 rfl rfl (fun w137 h137 => ?_)
      refine g_iret dX6_stillFrom_138 rfl ?_
      have hk : k = 100 := by omega
      subst hk
      exact hQ M _ hfr (Or.inr ⟨T, hst, h137⟩)
    · -- 13 f
      refine g_iconstI dX6_stillFrom_16 rfl rfl (fun w16 h16 => ?_)
      refine g_istore_n2 dX6_stillFrom_17 rfl rfl ?_
      refine g_iconstI dX6_stillFrom_18 rfl rfl (fun w18 h18 => ?_)
      refine g_istore_n3 dX6_stillFrom_19 rfl rfl ?_
      refine l_stillIn hR hIT hC hW hd (fun M1 T1 sm1 i1 y4 hfr1 hA1 hsm1 hps1 => ?_) _ _ _ _ M T rfl (by omega) (by omega) (Or.inl h16) ⟨fun _ _ => rfl, rfl⟩ hA (by rw [h18]; exact ⟨rfl, by rw [h16]; decide⟩)
      exact l_stillEnd hR hIT hd hC hWe hW hfr1 hA1 hsm1 hps1 (fun z hz1 hq hz2 => hQ M1 z ⟨fun j a b => by rw [hfr1.1 j a]; exact hfr.1 j a b, by rw [hfr1.2]; exact hfr.2⟩ (Or.inl ⟨k, T, T1, _, by omega, hst, hps1, hz1, hq, by omega⟩)) (fun M2 d2 hne hd2 hwr => ih _ (by omega) _ _ _ _ M2 (dayT T1) (k + 1) rfl (by omega) (by rw [hd2, dayT, upT_eq, (psP_inv hIT _ _ _ (by omega) hps1).2 0 4 (by decide) (by decide) (by decide) (by decide)]; omega) ⟨fun j a b => by rw [hwr.1 j b, hfr1.1 j a]; exact hfr.1 j a b, by rw [hwr.2.1, hfr1.2]; exact hfr.2⟩ (fun i hi => by
        have hi2 : (i : Int) < T1 0 1 := hi
        have := hwr.2.2 i hi2
        rw [if_pos (by omega)] at this
        rw [this]; rfl) (by rw [hwr.1 442 (by decide)]; exact RW.day hA1) ⟨T, T1, _, hst, hps1, hne, rfl⟩ rfl rfl)
set_option maxHeartbeats 1200000 in
theorem r_stillFrom {Γ : gW} {M : gM} {T : gTw} (hR : g_Ref Γ) (hI : INV T) (hday : T 0 4 + 101 ≤ 100000) (hD0 : (M.1 300 12).toInt = T 0 4) (hC0 : CR T M) (hWe0 : ∀ i : Nat, (i : Int) < T 0 1 → (M.1 411 i).toInt = if (T 0 5).toNat.testBit i then 1 else 0) (hW : WR T M) (hA : RW T (M.1 442)) : Ct Γ yX6_stillFrom μX6_stillFrom 5 [.ref 300] M (g_qi (fun z M1 => fr2 M M1 ∧ stillZ T z.toInt)) := by
  refine g_enter rfl rfl rfl (Nat.le_of_ble_eq_true rfl) ?_
  show G Γ _ _ _ _ 0 [some (.ref 300), none, none, none, none] [] M
  refine g_aload_n0 dX6_stillFrom_0 rfl ?_
  refine g_geti dX6_stillFrom_1 rfl fX6_253 hR.1 rfl ?_
  refine g_istore_n1 dX6_stillFrom_4 rfl rfl ?_
  exact l_stillOut hR hI hday hD0 hC0 hWe0 (fun M1 z h1 h2 => ⟨_, rfl, h1, h2⟩) _ _ _ _ _ M T 0 rfl (by omega) hD0 ⟨fun _ _ _ => rfl, rfl⟩ hW hA rfl rfl rfl
