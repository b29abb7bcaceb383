set_option maxHeartbeats 1200000 in
theorem l_roundEnd {Γ : gW} {M0 : gM} {T0 : gTw} (hR : g_Ref Γ) (hI : INV T0) (hC0 : CR T0 M0) (hW0 : WR T0 M0) (hDy : (M0.1 300 12).toInt = T0 0 4) {p : Int32} (hp : 0 ≤ p.toInt ∧ p.toInt < T0 0 0) {wh : Int32} (hwh : 0 ≤ wh.toInt ∧ wh.toInt ≤ 2) (hA0 : RW T0 (M0.1 407)) {M : gM} {T : gTw} {k : Nat} {m w s : Int32} {z6 : Option Value} (hfr : fr 442 M0 M) (hA : RW T (M.1 442)) (hrd : rdP T0 p.toInt.toNat k T w.toInt.toNat) (hmk : m.toInt = k) {Q : Option Value → gM → Prop} (hQ : ∀ z : Int32, z.toInt = (if wh.toInt = 0 then (k : Int) else if wh.toInt = 1 then w.toInt else woT T (hasT T p.toInt.toNat) - woT T0 (hasT T0 p.toInt.toNat)) → Q (some (.int z)) M) : G Γ μX6_round (g_R 4) (0, 0) (g_Z Γ Q) 166 [some (.ref 300), some (.int p), some (.int wh), some (.int m), some (.int w), some (.int s), z6] [] M := by
  obtain ⟨hIT, hwT, hsame⟩ := rdP_inv hI (by omega) _ _ _ hrd
  have hO := hIT.1
  have hC1 := CR.fr hC0 hfr (by omega)
  have hC : CR T M := by
    have h := hC1
    unfold CR at h ⊢
    simp only [hsame 0 _ (by decide) (by decide) (by decide) (by decide), hsame 1 _ (by decide) (by decide) (by decide) (by decide), hsame 2 _ (by decide) (by decide) (by decide) (by decide), hsame 8 _ (by decide) (by decide) (by decide) (by decide)]
    exact h
  have hT00 : T 0 0 = T0 0 0 := hsame 0 0 (by decide) (by decide) (by decide) (by decide)
  have hT01 : T 0 1 = T0 0 1 := hsame 0 1 (by decide) (by decide) (by decide) (by decide)
  have o_pe := hO.1
  have o_th := hO.2.1
  have epn : ((p.toInt.toNat : Nat) : Int) = p.toInt := by omega
  have h407 : M.1 407 = M0.1 407 := hfr.1 407 (by decide)
  rw [← h407] at hA0
  have hh1 : hasT T p.toInt.toNat < 4096 := by have := (hO.2.2.2.2.2.2.1 p.toInt.toNat (by omega)).2.2.2.2.2.1; rw [hasT]; omega
  have hh2 : hasT T0 p.toInt.toNat < 4096 := by have := (hI.1.2.2.2.2.2.2.1 p.toInt.toNat (by omega)).2.2.2.2.2.1; rw [hasT]; omega
  refine g_iload_n2 dX6_round_166 rfl ?_
  refine g_if_neI (t := 174) dX6_round_167 (by decide) rfl (fun c167 => ?_) (fun c167 => ?_)
  · -- 167 t
    refine g_iload_n2 dX6_round_174 rfl ?_
    refine g_iconstI dX6_round_175 rfl rfl (fun w175 h175 => ?_)
    refine g_icmp_neI (t := 184) dX6_round_176 (by decide) rfl (fun c176 => ?_) (fun c176 => ?_)
    · -- 176 t
      refine g_aload_n0 dX6_round_184 rfl ?_
      refine g_aload_n0 dX6_round_185 rfl ?_
      refine g_aload_n0 dX6_round_186 rfl ?_
      refine g_getr dX6_round_187 rfl fX6_100 hR.1 rfl ?_
      refine g_iload_n1 dX6_round_190 rfl ?_
      refine g_callVi2 dX6_round_191 rfl vX6_266 hR.1 rfl (r_hasOf hR hO hC (rf_row hR)) (g_rm (by omega)) (Nat.le_of_ble_eq_true rfl) (fun z191 M191 e191 => ?_)
      obtain ⟨e191a, e191⟩ := e191
      subst e191a
      rw [← epn, RW.has hA (by omega)] at e191
      have ez191 : z191.toInt = (hasT T p.toInt.toNat : Int) := by rw [i_bn (by omega), e191]
      have en191 : z191.toInt.toNat = hasT T p.toInt.toNat := by omega
      refine g_callVi1 dX6_round_194 rfl vX6_270 hR.1 rfl (r_worthOf hR hO hC (by omega)) (g_rm (by omega)) (Nat.le_of_ble_eq_true rfl) (fun z194 M194 e194 => ?_)
      obtain ⟨e194a, e194⟩ := e194
      subst e194a
      refine g_aload_n0 dX6_round_197 rfl ?_
      refine g_aload_n0 dX6_round_198 rfl ?_
      refine g_aload_n0 dX6_round_199 rfl ?_
      refine g_getr dX6_round_200 rfl fX6_41 hR.1 rfl ?_
      refine g_iload_n1 dX6_round_203 rfl ?_
      refine g_callVi2 dX6_round_204 rfl vX6_266 hR.1 rfl (r_hasOf hR hI.1 hC1 (rf_now hR)) (g_rm (by omega)) (Nat.le_of_ble_eq_true rfl) (fun z204 M204 e204 => ?_)
      obtain ⟨e204a, e204⟩ := e204
      subst e204a
      rw [← epn, RW.has hA0 (by omega)] at e204
      have ez204 : z204.toInt = (hasT T0 p.toInt.toNat : Int) := by rw [i_bn (by omega), e204]
      have en204 : z204.toInt.toNat = hasT T0 p.toInt.toNat := by omega
      refine g_callVi1 dX6_round_207 rfl vX6_270 hR.1 rfl (r_worthOf hR hI.1 hC1 (by omega)) (g_rm (by omega)) (Nat.le_of_ble_eq_true rfl) (fun z207 M207 e207 => ?_)
      obtain ⟨e207a, e207⟩ := e207
      subst e207a
      have hwa := wsum_le (w := T 8) (B := 999) (n := (T 0 1).toNat) (s := z191.toInt.toNat) (fun j hj => (hO.2.2.2.2.2.2.2 j (by omega)).2) (by omega)
      have hwb := wsum_le (w := T0 8) (B := 999) (n := (T0 0 1).toNat) (s := z204.toInt.toNat) (fun j hj => (hI.1.2.2.2.2.2.2.2 j (by omega)).2) (by omega)
      have hb1 : ((T 0 1).toNat : Int) * 999 ≤ 12 * 999 := by omega
      have hb2 : ((T0 0 1).toNat : Int) * 999 ≤ 12 * 999 := by omega
      refine g_isubI dX6_round_210 rfl ⟨by omega, by omega⟩ (fun w210 h210 => ?_)
      refine g_iret dX6_round_211 rfl ?_
      refine hQ _ ?_
      first
        | (have hz := h210; rw [if_neg (by omega), if_neg (by omega), hz, e194, e207, en191, en204]; rfl)
        | (have hz := c176; rw [if_neg (by omega), if_pos (by omega)])
        | (rw [if_pos (by omega)]; exact hmk)
    · -- 176 f
      refine g_iload4 dX6_round_179 rfl ?_
      refine g_goto (t := 211) dX6_round_181 (by decide) ?_
      refine g_iret dX6_round_211 rfl ?_
      refine hQ _ ?_
      first
        | (have hz := h210; rw [if_neg (by omega), if_neg (by omega), hz, e194, e207, en191, en204]; rfl)
        | (have hz := c176; rw [if_neg (by omega), if_pos (by omega)])
        | (rw [if_pos (by omega)]; exact hmk)
  · -- 167 f
    refine g_iload_n3 dX6_round_170 rfl ?_
    refine g_goto (t := 211) dX6_round_171 (by decide) ?_
    refine g_iret dX6_round_211 rfl ?_
    refine hQ _ ?_
    first
      | (have hz := h210; rw [if_neg (by omega), if_neg (by omega), hz, e194, e207, en191, en204]; rfl)
      | (have hz := c176; rw [if_neg (by omega), if_pos (by omega)])
      | (rw [if_pos (by omega)]; exact hmk)
set_option maxHeartbeats 1200000 in
theorem r_round {Γ : gW} {M : gM} {T : gTw} (hR : g_Ref Γ) (hI : INV T) (hS : RS T M) {p wh : Int32} : Ct Γ yX6_round μX6_round 4 [.ref 300, .int p, .int wh] M (g_qi (fun z M1 => (¬ (0 ≤ p.toInt ∧ p.toInt < T 0 0 ∧ 0 ≤ wh.toInt ∧ wh.toInt ≤ 2) ∧ z.toInt = 0 ∧ M1 = g_u (g_u M 300 1 0) 300 1 1) ∨ ((0 ≤ p.toInt ∧ p.toInt < T 0 0 ∧ 0 ≤ wh.toInt ∧ wh.toInt ≤ 2) ∧ fr 442 (g_u M 300 1 0) M1 ∧ ∃ (k : Nat) (T' : gTw) (w : Nat), rdP T p.toInt.toNat k T' w ∧ rdE p.toInt.toNat k T' w ∧ k ≤ 20 ∧ z.toInt = if wh.toInt = 0 then (k : Int) else if wh.toInt = 1 then (w : Int) else woT T' (hasT T' p.toInt.toNat) - woT T (hasT T p.toInt.toNat)))) := by
  have hO := hI.1
  have hS0 := RS.code (x := 0) hS
  obtain ⟨hC, hW, hA, hDy, hWe⟩ := id hS0
  obtain ⟨o_pe, o_th, o_la, o_wi, o_da, o_we, o_p, o_i⟩ := id hO
  obtain ⟨r_0, r_1, r_2, r_3, r_p, r_i⟩ := id hC
  refine g_enter rfl rfl rfl (Nat.le_of_ble_eq_true rfl) ?_
  show G Γ _ _ _ _ 0 [some (.ref 300), some (.int p), some (.int wh), none, none, none, none] [] M
  refine g_aload_n0 dX6_round_0 rfl ?_
  refine g_iconst (v := 0) dX6_round_1 rfl rfl ?_
  refine g_put dX6_round_2 rfl fX6_128 hR.1 rfl rfl rfl ?_
  refine g_aload_n0 dX6_round_5 rfl ?_
  refine g_iload_n1 dX6_round_6 rfl ?_
  refine g_callVi1 dX6_round_7 rfl vX6_263 hR.1 rfl (r_isPerson hR hO hC) (g_rm (by omega)) (Nat.le_of_ble_eq_true rfl) (fun z7 M7 e7 => ?_)
  obtain ⟨e7a, e7, f7⟩ := e7
  subst e7a
  refine g_if_eqI (t := 22) dX6_round_10 (by decide) rfl (fun c10 => ?_) (fun c10 => ?_)
  · -- 10 t
    have hp : ¬ (0 ≤ p.toInt ∧ p.toInt < T 0 0) := fun h => by have := f7.mpr h; omega
    clear f7 e7
    refine g_aload_n0 dX6_round_22 rfl ?_
    refine g_iconst (v := 1) dX6_round_23 rfl rfl ?_
    refine g_callVi1 dX6_round_24 rfl vX6_243 hR.1 rfl (r_fail hR) (g_rm (by omega)) (Nat.le_of_ble_eq_true rfl) (fun z24 M24 e24 => ?_)
    obtain ⟨e24a, e24⟩ := e24
    subst e24a
    refine g_iret dX6_round_27 rfl ?_
    exact ⟨_, rfl, Or.inl ⟨by omega, e24, rfl⟩⟩
  · -- 10 f
    have hp := f7.mp (by omega)
    clear f7 e7
    refine g_iload_n2 dX6_round_13 rfl ?_
    refine g_iconstI dX6_round_14 rfl rfl (fun w14 h14 => ?_)
    refine g_iconstI dX6_round_15 rfl rfl (fun w15 h15 => ?_)
    refine g_callSi3 dX6_round_16 rfl sX6_131 (r_isIn) (g_rm (by omega)) (Nat.le_of_ble_eq_true rfl) (fun z16 M16 e16 => ?_)
    obtain ⟨e16a, e16, f16⟩ := e16
    subst e16a
    refine g_if_neI (t := 28) dX6_round_19 (by decide) rfl (fun c19 => ?_) (fun c19 => ?_)
    · -- 19 t
      have hw2 : 0 ≤ wh.toInt ∧ wh.toInt ≤ 2 := by have := f16.mp (by omega); omega
      clear f16 e16
      refine g_aload_n0 dX6_round_28 rfl ?_
      refine g_getr dX6_round_29 rfl fX6_41 hR.1 rfl ?_
      refine g_aload_n0 dX6_round_32 rfl ?_
      refine g_getr dX6_round_33 rfl fX6_100 hR.1 rfl ?_
      refine g_callSv2 dX6_round_36 rfl sX6_249 (r_copy (rf_now hR) (rf_row hR) (by decide)) (g_rm (by omega)) (Nat.le_of_ble_eq_true rfl) (fun M36 e36 => ?_)
      have hfr2 : fr 442 (g_u M 300 1 0) M36 := ⟨fun j hj => by rw [e36, rowI_ne hj], by rw [e36]; rfl⟩
      have hA2 : RW T (M36.1 442) := by
        have e : ∀ j, j < 30 → M36.1 442 j = (g_u M 300 1 0).1 407 j := fun j hj => by rw [e36, rowI_at, if_pos hj]
        refine ⟨fun q hq => ?_, fun i hi => ?_⟩
        · have h := hA.1 q hq
          rw [e _ (by omega), e _ (by omega), e _ (by omega)]
          refine ⟨h.1, h.2.1, h.2.2.1, fun i => ?_⟩
          rw [h.2.2.2 i]
          constructor
          · rintro ⟨a, b⟩; exact ⟨a, by rw [e i (by omega)]; exact b⟩
          · rintro ⟨a, b⟩; exact ⟨a, by rw [e i (by omega)] at b; exact b⟩
        · rw [e i (by omega)]; exact hA.2 i hi
      have hC2 := CR.fr hC hfr2 (by omega)
      have hW2 := WR.fr hW hfr2 (by omega)
      have hD2 : (M36.1 300 12).toInt = T 0 4 := by rw [hfr2.1 300 (by decide)]; exact hDy
      clear e36
      refine g_iconstI dX6_round_39 rfl rfl (fun w39 h39 => ?_)
      refine g_istore_n3 dX6_round_40 rfl rfl ?_
      refine g_iload_n1 dX6_round_41 rfl ?_
      refine g_istore4 dX6_round_42 rfl rfl ?_
      refine g_aload_n0 dX6_round_44 rfl ?_
      refine g_aload_n0 dX6_round_45 rfl ?_
      refine g_getr dX6_round_46 rfl fX6_100 hR.1 rfl ?_
      refine g_iload_n1 dX6_round_49 rfl ?_
      refine g_aload_n0 dX6_round_50 rfl ?_
      refine g_geti dX6_round_51 rfl fX6_253 hR.1 rfl ?_
      refine g_callVi3 dX6_round_54 rfl vX6_311 hR.1 rfl (r_choiceOf hR hO hC2 hW2 (rf_row hR) hA2 hp hD2) (g_rm (by omega)) (Nat.le_of_ble_eq_true rfl) (fun z54 M54 e54 => ?_)
      obtain ⟨rfl, e54⟩ := e54
      refine g_istore5 dX6_round_57 rfl rfl ?_
      refine l_round hR hI (M0 := M54) hC2 hW2 hD2 hp (fun M1 T1 k1 m1 w1 s1 z1 h1 h2 h3 h4 h5 h6 h7 => ?_) _ _ _ _ _ _ T 0 rfl (by omega) (by omega) hp.1 ⟨fun _ _ => rfl, rfl⟩ hA2 ⟨rfl, rfl⟩ (Or.inr ⟨Or.inl rfl, e54⟩)
      refine l_roundEnd hR hI hC2 hW2 hD2 hp hw2 (by rw [hfr2.1 407 (by decide)]; exact hA) h1 h2 h3 h5 (fun z hz => ⟨_, rfl, Or.inr ⟨⟨hp.1, hp.2, hw2⟩, ⟨fun j hj => by rw [h1.1 j hj]; exact hfr2.1 j hj, by rw [h1.2]; exact hfr2.2⟩, k1, T1, w1.toInt.toNat, h3, h4, h6, ?_⟩⟩)
      rw [hz, show ((w1.toInt.toNat : Nat) : Int) = w1.toInt by omega]
    · -- 19 f
      have hw2 : ¬ (0 ≤ wh.toInt ∧ wh.toInt ≤ 2) := fun h => by have := f16.mpr (by omega); omega
      clear f16 e16
      refine g_aload_n0 dX6_round_22 rfl ?_
      refine g_iconst (v := 1) dX6_round_23 rfl rfl ?_
      refine g_callVi1 dX6_round_24 rfl vX6_243 hR.1 rfl (r_fail hR) (g_rm (by omega)) (Nat.le_of_ble_eq_true rfl) (fun z24 M24 e24 => ?_)
      obtain ⟨e24a, e24⟩ := e24
      subst e24a
      refine g_iret dX6_round_27 rfl ?_
      exact ⟨_, rfl, Or.inl ⟨by omega, e24, rfl⟩⟩
