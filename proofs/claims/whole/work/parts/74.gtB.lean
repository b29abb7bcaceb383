set_option maxHeartbeats 1200000 in
theorem l_come {Γ : gW} {M : gM} {T0 T : gTw} {r0 : Nat → Int32} {σ : gGt} (hR : g_Ref Γ) (hG : GTR T0 r0 σ M) (hI : INV T) (hX : TX T0 T) {a : Nat} (ha : g_o Γ a (.inr (1, 30))) (hA : RW T (M.1 a)) (hRX : RX T0 r0 (M.1 a)) {bI : Int32} (hb : 0 ≤ bI.toInt ∧ bI.toInt ≤ (σ.1 : Int)) {fI : Int32} (hf : fI.toInt = (foN (M.1 a) : Int)) {d : Nat} (hd : 0 < d) {Q : Option Value → gM → Prop} (hQ : ∀ M1 : gM, GTR T0 r0 (gcome T bI.toInt σ) M1 → frG M M1 → Q none M1) : ∀ (n9 : Nat) (k : Int32), (k.toInt + 1).toNat = n9 → (k.toInt = -1 ∨ ∃ h : Nat, k.toInt = (h : Int) ∧ h < σ.1 ∧ foN (stR M h) = foN (M.1 a)) → (∀ i, i < σ.1 → k.toInt < (i : Int) → ¬ σ.2.1 i = T) → G Γ μX6_come (g_R d) (0, 0) (g_Z Γ Q) 13 [some (.ref 300), some (.ref a), some (.int bI), some (.int fI), some (.int k)] [] M := by
  intro n9
  induction n9 using Nat.strongRecOn with
  | ind n9 ih =>
    intro k h9 hk hno
    have hflt := foN_lt (M.1 a)
    have hm44 := hG.1
    have hm2 := hG.2.1
    have n3 : a ≠ 300 := g_o_ne ha hR.1 (by decide)
    have n438 : a ≠ 438 := g_o_ne ha (rf_states hR) (by decide)
    have n439 : a ≠ 439 := g_o_ne ha (rf_steps hR) (by decide)
    have n440 : a ≠ 440 := g_o_ne ha (rf_next hR) (by decide)
    have n441 : a ≠ 441 := g_o_ne ha (rf_heads hR) (by decide)
    refine g_iload4 dX6_come_13 rfl ?_
    refine g_iconstI dX6_come_15 rfl rfl (fun w15 h15 => ?_)
    refine g_icmp_eqI (t := 42) dX6_come_16 (by decide) rfl (fun c16 => ?_) (fun c16 => ?_)
    · -- 16 t
      have hnone : ∀ i, i < σ.1 → ¬ σ.2.1 i = T := fun i hi => hno i hi (by omega)
      clear hk
      refine g_aload_n0 dX6_come_42 rfl ?_
      refine g_geti dX6_come_43 rfl fX6_355 hR.1 rfl ?_
      refine g_sipushI dX6_come_46 rfl rfl (fun w46 h46 => ?_)
      refine g_icmp_neI (t := 58) dX6_come_49 (by decide) rfl (fun c49 => ?_) (fun c49 => ?_)
      · -- 49 t
        refine g_iconstI dX6_come_58 rfl rfl (fun w58 h58 => ?_)
        refine g_istore4 dX6_come_59 rfl rfl ?_
        refine g_fwd (l_lay hR ha (M := M) (m := σ.1) hm44 (by omega) (fun i => ?_) _ w58 rfl (by omega) (by omega)) (by rw [h58, show (0 : Int).toNat = 0 from rfl, layS_0])
        have hm9 : (M.1 300 44).toInt.toNat = σ.1 := by omega
        have hf9 : fI.toInt.toNat = foN (M.1 a) := by omega
        have hm8 : ((layS M (30 * σ.1) a 30).1 300 44).toInt = (σ.1 : Int) := hm44
        have hm7 : ((layS M (30 * σ.1) a 30).1 300 44).toInt.toNat = σ.1 := by omega
        refine g_aload_n0 dX6_come_93 rfl ?_
        refine g_getr dX6_come_94 rfl fX6_91 hR.1 rfl ?_
        refine g_aload_n0 dX6_come_97 rfl ?_
        refine g_geti dX6_come_98 rfl fX6_355 hR.1 rfl ?_
        refine g_iload_n2 dX6_come_101 rfl ?_
        refine g_iastI dX6_come_102 rfl (rf_steps hR) ⟨by omega, by omega⟩ ?_
        rw [hm7]
        refine g_aload_n0 dX6_come_103 rfl ?_
        refine g_getr dX6_come_104 rfl fX6_94 hR.1 rfl ?_
        refine g_aload_n0 dX6_come_107 rfl ?_
        refine g_geti dX6_come_108 rfl fX6_355 hR.1 rfl ?_
        rw [g_u_ne (show 300 ≠ 439 by omega)]
        refine g_aload_n0 dX6_come_111 rfl ?_
        refine g_getr dX6_come_112 rfl fX6_97 hR.1 rfl ?_
        refine g_iload_n3 dX6_come_115 rfl ?_
        refine g_ialdI dX6_come_116 rfl (rf_heads hR) ⟨by omega, by omega⟩ ?_
        rw [g_u_ne (show 441 ≠ 439 by omega)]
        refine g_iastI dX6_come_117 rfl (rf_next hR) ⟨by omega, by omega⟩ ?_
        rw [hm7, hf9]
        refine g_aload_n0 dX6_come_118 rfl ?_
        refine g_getr dX6_come_119 rfl fX6_97 hR.1 rfl ?_
        refine g_iload_n3 dX6_come_122 rfl ?_
        refine g_aload_n0 dX6_come_123 rfl ?_
        refine g_geti dX6_come_124 rfl fX6_355 hR.1 rfl ?_
        rw [g_u_ne (show 300 ≠ 440 by omega)]
        rw [g_u_ne (show 300 ≠ 439 by omega)]
        refine g_iastI dX6_come_127 rfl (rf_heads hR) ⟨by omega, by omega⟩ ?_
        rw [hf9]
        refine g_aload_n0 dX6_come_128 rfl ?_
        refine g_dup dX6_come_129 rfl rfl ?_
        refine g_geti dX6_come_130 rfl fX6_355 hR.1 rfl ?_
        rw [g_u_ne (show 300 ≠ 441 by omega)]
        rw [g_u_ne (show 300 ≠ 440 by omega)]
        rw [g_u_ne (show 300 ≠ 439 by omega)]
        refine g_iconstI dX6_come_133 rfl rfl (fun w133 h133 => ?_)
        refine g_iaddI dX6_come_134 rfl ⟨by omega, by omega⟩ (fun w134 h134 => ?_)
        refine g_put dX6_come_135 rfl fX6_355 hR.1 rfl rfl rfl ?_
        refine g_vret dX6_come_138 rfl ?_
        refine hQ _ ?_ ?_
        · exact GTR.new (mI := M.1 300 44) hG hI hX hA hRX hm44 (by omega) (by omega) hb (fun h => by obtain ⟨i, h1, h2⟩ := h; exact hnone i h1 h2)
        · refine ⟨fun j a1 a2 a3 a4 a5 a6 => ?_, rfl, fun k a1 a2 => ?_⟩
          · rw [g_u_ne a1, g_u_ne a5, g_u_ne a4, g_u_ne a3, layS, g_row_ne a2]
          · rw [g_u_eq, if_neg a1, g_u_ne (by decide), g_u_ne (by decide), g_u_ne (by decide), layS, g_row_ne (by decide)]
      · -- 49 f
        refine g_aload_n0 dX6_come_52 rfl ?_
        refine g_iconst (v := 1) dX6_come_53 rfl rfl ?_
        refine g_put dX6_come_54 rfl fX6_358 hR.1 rfl rfl rfl ?_
        refine g_vret dX6_come_57 rfl ?_
        exact hQ _ (GTR.full (x := 1) hG (fun h => by obtain ⟨i, h1, h2⟩ := h; exact hnone i h1 h2) (by omega) rfl) ⟨fun j a1 a2 a3 a4 a5 a6 => by rw [g_u_ne a1], rfl, fun k a1 a2 => by rw [g_u_eq, if_neg a2]⟩
    · -- 16 f
      have hk2 : 0 ≤ k.toInt ∧ k.toInt.toNat < σ.1 ∧ foN (stR M k.toInt.toNat) = foN (M.1 a) := by
        rcases hk with h | ⟨h, e1, e2, e3⟩
        · omega
        · rw [show k.toInt.toNat = h by omega]; exact ⟨by omega, e2, e3⟩
      clear hk
      refine g_aload_n0 dX6_come_19 rfl ?_
      refine g_iload4 dX6_come_20 rfl ?_
      refine g_aload_n1 dX6_come_22 rfl ?_
      refine g_callVi2 dX6_come_23 rfl vX6_351 hR.1 rfl (r_isState hR ha (k := k.toInt.toNat) (by omega) (by omega)) (g_rm (by omega)) (Nat.le_of_ble_eq_true rfl) (fun z23 M23 e23 => ?_)
      obtain ⟨e23a, e23, f23⟩ := e23
      subst e23a
      obtain ⟨g1, g2, g3, g4, -, -⟩ := hG.2.2.2.2.1 k.toInt.toNat hk2.2.1
      have hro := row_eq g1 hI g2 hX g3 hA g4 hRX
      rw [hro] at f23
      refine g_if_eqI (t := 30) dX6_come_26 (by decide) rfl (fun c26 => ?_) (fun c26 => ?_)
      · -- 26 t
        have hdiff : ¬ σ.2.1 k.toInt.toNat = T := fun h => by have := f23.mpr h; omega
        clear f23 hro
        obtain ⟨n1, n2⟩ := hG.2.2.2.2.2.2 k.toInt.toNat hk2.2.1
        refine g_aload_n0 dX6_come_30 rfl ?_
        refine g_getr dX6_come_31 rfl fX6_94 hR.1 rfl ?_
        refine g_iload4 dX6_come_34 rfl ?_
        refine g_ialdI dX6_come_36 rfl (rf_next hR) ⟨by omega, by omega⟩ ?_
        refine g_istore4 dX6_come_37 rfl rfl ?_
        refine g_goto (t := 13) dX6_come_39 (by decide) ?_
        have hM : M23 = M23 := rfl
        refine ih _ ?_ _ rfl ?_ (fun i hi hki => ?_)
        · rcases n1 with h | ⟨h, e1, e2, -⟩ <;> omega
        · rcases n1 with h | ⟨h, e1, e2, e3⟩
          · exact Or.inl h
          · exact Or.inr ⟨h, e1, by omega, by rw [e3]; exact hk2.2.2⟩
        · intro hT
          rcases (show k.toInt < (i : Int) ∨ i = k.toInt.toNat ∨ i < k.toInt.toNat by omega) with h | h | h
          · exact hno i hi h hT
          · rw [h] at hT; exact hdiff hT
          · obtain ⟨q1, q2, q3, q4, -, -⟩ := hG.2.2.2.2.1 i hi
            have hrow := (row_eq q1 hI q2 hX q3 hA q4 hRX).mpr hT
            have hfo : foN (stR M23 i) = foN (M23.1 a) := foN_ext (fun j hj => hrow j hj)
            have := n2 i h (by rw [hfo, hk2.2.2])
            omega
      · -- 26 f
        have hsame := f23.mp (by omega)
        clear f23 hro
        refine g_vret dX6_come_29 rfl ?_
        exact hQ _ (by rw [gcome_old ⟨k.toInt.toNat, hk2.2.1, hsame⟩]; exact hG) frG.rf
set_option maxHeartbeats 1200000 in
theorem r_come {Γ : gW} {M : gM} {T0 T : gTw} {r0 : Nat → Int32} {σ : gGt} (hR : g_Ref Γ) (hG : GTR T0 r0 σ M) (hI : INV T) (hX : TX T0 T) {a : Nat} (ha : g_o Γ a (.inr (1, 30))) (hA : RW T (M.1 a)) (hRX : RX T0 r0 (M.1 a)) {bI : Int32} (hb : 0 ≤ bI.toInt ∧ bI.toInt ≤ (σ.1 : Int))  : Ct Γ yX6_come μX6_come 1 [.ref 300, .ref a, .int bI] M (g_qv (fun M1 => GTR T0 r0 (gcome T bI.toInt σ) M1 ∧ frG M M1)) := by
  have hflt := foN_lt (M.1 a)
  refine g_enter rfl rfl rfl (Nat.le_of_ble_eq_true rfl) ?_
  show G Γ _ _ _ _ 0 [some (.ref 300), some (.ref a), some (.int bI), none, none] [] M
  refine g_aload_n1 dX6_come_0 rfl ?_
  refine g_callSi1 dX6_come_1 rfl sX6_347 (r_foldOf ha) (g_rm (by omega)) (Nat.le_of_ble_eq_true rfl) (fun z1 M1 e1 => ?_)
  obtain ⟨e1a, e1⟩ := e1
  subst e1a
  refine g_istore_n3 dX6_come_4 rfl rfl ?_
  refine g_aload_n0 dX6_come_5 rfl ?_
  refine g_getr dX6_come_6 rfl fX6_97 hR.1 rfl ?_
  refine g_iload_n3 dX6_come_9 rfl ?_
  refine g_ialdI dX6_come_10 rfl (rf_heads hR) ⟨by omega, by omega⟩ ?_
  have hfi : z1.toInt.toNat = foN (M1.1 a) := by omega
  rw [hfi]
  obtain ⟨b1, b2⟩ := hG.2.2.2.2.2.1 (foN (M1.1 a)) hflt
  refine g_istore4 dX6_come_11 rfl rfl ?_
  refine l_come hR hG hI hX ha hA hRX hb e1 (by omega) (fun M2 h1 h2 => ⟨rfl, h1, h2⟩) _ _ rfl b1 (fun i hi hki hT => ?_)
  obtain ⟨q1, q2, q3, q4, -, -⟩ := hG.2.2.2.2.1 i hi
  have hrow := (row_eq q1 hI q2 hX q3 hA q4 hRX).mpr hT
  have hfo : foN (stR M1 i) = foN (M1.1 a) := foN_ext (fun j hj => hrow j hj)
  have := b2 i hi hfo
  omega
